/-! ===== the reference: runs, amplitude, chance, spread ===== -/
section MN
variable {sh : Shp} {d p s t g n : Nat} {σ : Mem} {W : Vc} {c : List Gt} {z w v : Int} {a : AX}
theorem laM (hM : MS sh) : laR sh 137 := ⟨(ms29 hM).2.1, (ms29 hM).2.2, by have := hM.2.1; omega⟩
theorem M204w (hM : MS sh) (z : Int) (s g : Nat) : ∀ (pw : Nat) {σ1 : Mem} {W : Vc}, HV σ1 137 W → bdW 1073741824 W → σ1.1 124 31 = (pw : Int) → pw ≤ 1000 → ∃ σ2 : Mem, ev sh (d + 2) 204 56 [some (mR (124)), some (mI (z)), some (mI ((s : Nat) : Int)), some (mI ((g : Nat) : Int))] [] σ1 = ev sh (d + 2) 204 93 [some (mR (124)), some (mI (z)), some (mI ((s : Nat) : Int)), some (mI ((g : Nat) : Int))] [] σ2 ∧ HV σ2 137 (noV pw W).1 ∧ σ2.1 124 31 = ((noV pw W).2 : Int) ∧ frW 137 137 31 31 σ1 σ2 := by
  have mo := hM.1
  have m160 := hM.2.1
  obtain ⟨ra29, rk29, rl29⟩ := ms29 hM
  intro pw
  induction pw with
  | zero =>
    intro σ1 W hV hb hp hl
    refine ⟨σ1, ?_, hV, hp, frW.rf⟩
    have hp : σ1.1 124 31 = 0 := hp
    rw [e204_56]
    simp (disch := first | assumption | omega | (simp (disch := omega) only [wN, w0, w1]; omega)) only [e204_0, e204_1, e204_4, e204_5, e204_8, e204_9, e204_10, e204_13, e204_14, e204_15, e204_16, e204_17, e204_20, e204_21, e204_22, e204_25, e204_26, e204_27, e204_28, e204_29, e204_32, e204_35, e204_36, e204_37, e204_38, e204_39, e204_42, e204_43, e204_46, e204_47, e204_48, e204_51, e204_52, e204_53, e204_57, e204_60, e204_63, e204_64, e204_67, e204_70, e204_73, e204_74, e204_77, e204_80, e204_81, e204_82, e204_85, e204_86, e204_87, e204_90, e204_96, e204_99, kl_I, kl_R, kl_N, kl_L, oSm, oNn, Option.bind_some, wN, if_pos, if_neg, nS, tN, t0, w0, w1, w2, w3, w4, w5, wm1, upA_ne, upA_same, if_true, if_false, Bool.false_eq_true, hp]
  | succ pw ih =>
    intro σ1 W hV hb hp hl
    have f1 := M202 (d := d + 1) (laM hM) hV
    by_cases h : evW W = true
    · rw [if_pos h] at f1
      obtain ⟨r, σ2, g1, rfl, g3, g4⟩ := M203 (d := d + 1) (laM hM) hV hb h
      have hp2 : σ2.1 124 31 = ((pw + 1 : Nat) : Int) := by rw [g4.1]; exact hp
      have e : ((pw + 1 : Nat) : Int) - 1 = (pw : Int) := by omega
      obtain ⟨σ3, j1, j2, j3, j4⟩ := ih (σ1 := (upA σ2.1 124 (up1 (σ2.1 124) 31 (pw : Int)), σ2.2)) (W := leW W) g3 (bd_le hb) (by simp (disch := omega) only [upA_same, up1_same]) (by omega)
      refine ⟨σ3, ?_, ?_, ?_, ((g4.W (by omega)).tr (frW.f (by omega))).tr j4⟩
      · rw [e204_56]
        simp (disch := first | assumption | omega | (simp (disch := omega) only [wN, w0, w1]; omega)) only [e204_0, e204_1, e204_4, e204_5, e204_8, e204_9, e204_10, e204_13, e204_14, e204_15, e204_16, e204_17, e204_20, e204_21, e204_22, e204_25, e204_26, e204_27, e204_28, e204_29, e204_32, e204_35, e204_36, e204_37, e204_38, e204_39, e204_42, e204_43, e204_46, e204_47, e204_48, e204_51, e204_52, e204_53, e204_57, e204_60, e204_63, e204_64, e204_67, e204_70, e204_73, e204_74, e204_77, e204_80, e204_81, e204_82, e204_85, e204_86, e204_87, e204_90, e204_96, e204_99, kl_I, kl_R, kl_N, kl_L, oSm, oNn, Option.bind_some, wN, if_pos, if_neg, nS, tN, t0, w0, w1, w2, w3, w4, w5, wm1, upA_ne, upA_same, if_true, if_false, Bool.false_eq_true, hp, f1, ra29, rl29, g1, hp2, e]
        exact j1
      · rw [noV, if_pos h]; exact j2
      · rw [noV, if_pos h]; exact j3
    · rw [if_neg h] at f1
      refine ⟨σ1, ?_, ?_, ?_, frW.rf⟩
      · rw [e204_56]
        simp (disch := first | assumption | omega | (simp (disch := omega) only [wN, w0, w1]; omega)) only [e204_0, e204_1, e204_4, e204_5, e204_8, e204_9, e204_10, e204_13, e204_14, e204_15, e204_16, e204_17, e204_20, e204_21, e204_22, e204_25, e204_26, e204_27, e204_28, e204_29, e204_32, e204_35, e204_36, e204_37, e204_38, e204_39, e204_42, e204_43, e204_46, e204_47, e204_48, e204_51, e204_52, e204_53, e204_57, e204_60, e204_63, e204_64, e204_67, e204_70, e204_73, e204_74, e204_77, e204_80, e204_81, e204_82, e204_85, e204_86, e204_87, e204_90, e204_96, e204_99, kl_I, kl_R, kl_N, kl_L, oSm, oNn, Option.bind_some, wN, if_pos, if_neg, nS, tN, t0, w0, w1, w2, w3, w4, w5, wm1, upA_ne, upA_same, if_true, if_false, Bool.false_eq_true, hp, ra29, rl29, f1]
      · rw [noV, if_neg h]; exact hV
      · rw [noV, if_neg h]; exact hp
theorem M204 (hM : MS sh) (hG : HGm σ t c) (ht : t < 3) (hc : c.length ≤ 30) (hv : okC n c) (hN : σ.1 124 8 = (n : Int)) (hn : n ≤ 4) (hs : s < 2 ^ n) (hz : z = (t : Int)) : End (run sh (d + 2) 204 [mR 124, mI z, mI (s : Int)] σ) (fun r σ' => r = none ∧ HV σ' 137 (amV c s).1 ∧ σ'.1 124 31 = ((amV c s).2 : Int) ∧ frW 137 137 31 31 σ σ') := by
  have mo := hM.1
  have m160 := hM.2.1
  obtain ⟨ra1, rk1, rl1⟩ := ms1 hM
  obtain ⟨ra29, rk29, rl29⟩ := ms29 hM
  subst hz
  have h16 : 2 ^ n ≤ 2 ^ 4 := Nat.pow_le_pow_right (by omega) hn
  have L := for_P (c.length) (fun i => ∀ (σ1 : Mem), (HV σ1 137 (fdR c i (e1W s)).1 ∧ σ1.1 124 31 = ((fdR c i (e1W s)).2 : Int) ∧ frW 137 137 31 31 σ σ1) → End (ev sh (d + 2) 204 15 [some (mR (124)), some (mI ((t : Nat) : Int)), some (mI ((s : Nat) : Int)), some (mI ((i : Nat) : Int))] [] σ1) (fun r σ' => r = none ∧ HV σ' 137 (amV c s).1 ∧ σ'.1 124 31 = ((amV c s).2 : Int) ∧ frW 137 137 31 31 σ σ')) (by
    intro σ1  hp
    replace hp : HV σ1 137 (fdR c (c.length) (e1W s)).1 ∧ σ1.1 124 31 = ((fdR c (c.length) (e1W s)).2 : Int) ∧ frW 137 137 31 31 σ σ1 := hp
    show End (ev sh (d + 2) 204 15 [some (mR (124)), some (mI ((t : Nat) : Int)), some (mI ((s : Nat) : Int)), some (mI (((c.length) : Nat) : Int))] [] σ1) (fun r σ' => r = none ∧ HV σ' 137 (amV c s).1 ∧ σ'.1 124 31 = ((amV c s).2 : Int) ∧ frW 137 137 31 31 σ σ')
    obtain ⟨e1, e2, e3⟩ := hp
    have hl : σ1.1 126 t = (c.length : Int) := by rw [(e3.1 126 (by omega) (by omega)).1]; exact hG.1
    rw [e204_15]
    simp (disch := first | assumption | omega | (simp (disch := omega) only [wN, w0, w1]; omega)) only [e204_0, e204_1, e204_4, e204_5, e204_8, e204_9, e204_10, e204_13, e204_14, e204_16, e204_17, e204_20, e204_21, e204_22, e204_25, e204_26, e204_27, e204_28, e204_29, e204_32, e204_35, e204_36, e204_37, e204_38, e204_39, e204_42, e204_43, e204_46, e204_47, e204_48, e204_51, e204_52, e204_53, e204_56, e204_57, e204_60, e204_63, e204_64, e204_67, e204_70, e204_73, e204_74, e204_77, e204_80, e204_81, e204_82, e204_85, e204_86, e204_87, e204_90, e204_93, e204_96, e204_99, kl_I, kl_R, kl_N, kl_L, oSm, oNn, Option.bind_some, wN, if_pos, if_neg, nS, tN, t0, w0, w1, w2, w3, w4, w5, wm1, upA_ne, upA_same, if_true, if_false, Bool.false_eq_true, ra1, rl1, hl]
    exact End.of rfl ⟨rfl, e1, e2, e3⟩) (fun i hi ih => by
    replace ih : ∀ (σ1 : Mem), (HV σ1 137 (fdR c (i + 1) (e1W s)).1 ∧ σ1.1 124 31 = ((fdR c (i + 1) (e1W s)).2 : Int) ∧ frW 137 137 31 31 σ σ1) → End (ev sh (d + 2) 204 15 [some (mR (124)), some (mI ((t : Nat) : Int)), some (mI ((s : Nat) : Int)), some (mI (((i + 1) : Nat) : Int))] [] σ1) (fun r σ' => r = none ∧ HV σ' 137 (amV c s).1 ∧ σ'.1 124 31 = ((amV c s).2 : Int) ∧ frW 137 137 31 31 σ σ') := ih
    intro σ1  hp
    replace hp : HV σ1 137 (fdR c i (e1W s)).1 ∧ σ1.1 124 31 = ((fdR c i (e1W s)).2 : Int) ∧ frW 137 137 31 31 σ σ1 := hp
    show End (ev sh (d + 2) 204 15 [some (mR (124)), some (mI ((t : Nat) : Int)), some (mI ((s : Nat) : Int)), some (mI ((i : Nat) : Int))] [] σ1) (fun r σ' => r = none ∧ HV σ' 137 (amV c s).1 ∧ σ'.1 124 31 = ((amV c s).2 : Int) ∧ frW 137 137 31 31 σ σ')
    obtain ⟨e1, e2, e3⟩ := hp
    have hG1 : HGm σ1 t c := hG.k (by rw [(e3.1 126 (by omega) (by omega)).1]) (fun _ _ _ => by rw [(e3.1 125 (by omega) (by omega)).1])
    have hl := hG1.1
    have hN1 : σ1.1 124 8 = (n : Int) := by rw [e3.2 8 (by omega)]; exact hN
    obtain ⟨r, σ2, f1, rfl, f3, f4⟩ := M200 (d := d) hM (laM hM) e1 hG1 ht hc hv hi hN1 hn rfl
    rw [doW_eq (hv.at hi) (fdR_sp hv (e1_sp hs) i (by omega))] at f3
    have hG2 : HGm σ2 t c := hG1.k (by rw [f4.1]) (fun _ _ _ => by rw [f4.1])
    have o0 := of0 (d := d + 1) hM hG2 ht hc hi rfl
    have hp2 : σ2.1 124 31 = ((fdR c i (e1W s)).2 : Int) := by rw [f4.1]; exact e2
    have hle := fdR_le c (e1W s) i
    have hk5 := (hv.at hi).1
    have hb : bdW 1073741824 (clW (gA c i) (fdR c i (e1W s)).1) := by
      have q1 := bd_cl (B := 2 ^ i) (by exact Int.le_of_lt (Int.pow_pos (by omega))) (bd_fdR (c := c) (e1_bd s) i) (gA c i)
      have q2 := p30 (i := i + 1) (by omega)
      refine bd_mono ?_ q1
      rw [Int.pow_succ] at q2
      omega
    by_cases h : (gA c i).1 = 1
    · have ek : ktH (gA c i) = 1 := by rw [ktH, if_pos h]
      have e : ((fdR c i (e1W s)).2 : Int) + 1 = (((fdR c i (e1W s)).2 + ktH (gA c i) : Nat) : Int) := by rw [ek]; rfl
      obtain ⟨σ3, j1, j2, j3, j4⟩ := M204w (d := d) (σ1 := (upA σ2.1 124 (up1 (σ2.1 124) 31 (((fdR c i (e1W s)).2 + ktH (gA c i) : Nat) : Int)), σ2.2)) hM (t : Int) s i ((fdR c i (e1W s)).2 + ktH (gA c i)) f3 hb (by simp (disch := omega) only [upA_same, up1_same]) (by omega)
      rw [e204_15]
      simp (disch := first | assumption | omega | (simp (disch := omega) only [wN, w0, w1]; omega)) only [e204_0, e204_1, e204_4, e204_5, e204_8, e204_9, e204_10, e204_13, e204_14, e204_16, e204_17, e204_20, e204_21, e204_22, e204_25, e204_26, e204_27, e204_28, e204_29, e204_32, e204_35, e204_36, e204_37, e204_38, e204_39, e204_42, e204_43, e204_46, e204_47, e204_48, e204_51, e204_52, e204_53, e204_57, e204_60, e204_63, e204_64, e204_67, e204_70, e204_73, e204_74, e204_77, e204_80, e204_81, e204_82, e204_85, e204_86, e204_87, e204_90, e204_96, e204_99, kl_I, kl_R, kl_N, kl_L, oSm, oNn, Option.bind_some, wN, if_pos, if_neg, nS, tN, t0, w0, w1, w2, w3, w4, w5, wm1, upA_ne, upA_same, if_true, if_false, Bool.false_eq_true, ra1, rl1, ra29, rl29, hl, f1, o0, hp2, e]
      refine End.cg j1 ?_
      simp (disch := first | assumption | omega | (simp (disch := omega) only [wN, w0, w1]; omega)) only [e204_0, e204_1, e204_4, e204_5, e204_8, e204_9, e204_10, e204_13, e204_14, e204_16, e204_17, e204_20, e204_21, e204_22, e204_25, e204_26, e204_27, e204_28, e204_29, e204_32, e204_35, e204_36, e204_37, e204_38, e204_39, e204_42, e204_43, e204_46, e204_47, e204_48, e204_51, e204_52, e204_53, e204_57, e204_60, e204_63, e204_64, e204_67, e204_70, e204_73, e204_74, e204_77, e204_80, e204_81, e204_82, e204_85, e204_86, e204_87, e204_90, e204_93, e204_96, e204_99, kl_I, kl_R, kl_N, kl_L, oSm, oNn, Option.bind_some, wN, if_pos, if_neg, nS, tN, t0, w0, w1, w2, w3, w4, w5, wm1, upA_ne, upA_same, if_true, if_false, Bool.false_eq_true]
      exact ih _ ⟨j2, j3, ((e3.tr (f4.W (by omega))).tr (frW.f (by omega))).tr j4⟩
    · have ek : ktH (gA c i) = 0 := by rw [ktH, if_neg h]
      obtain ⟨σ3, j1, j2, j3, j4⟩ := M204w (d := d) (σ1 := σ2) hM (t : Int) s i ((fdR c i (e1W s)).2 + ktH (gA c i)) f3 hb (by rw [ek]; exact hp2) (by omega)
      rw [e204_15]
      simp (disch := first | assumption | omega | (simp (disch := omega) only [wN, w0, w1]; omega)) only [e204_0, e204_1, e204_4, e204_5, e204_8, e204_9, e204_10, e204_13, e204_14, e204_16, e204_17, e204_20, e204_21, e204_22, e204_25, e204_26, e204_27, e204_28, e204_29, e204_32, e204_35, e204_36, e204_37, e204_38, e204_39, e204_42, e204_43, e204_46, e204_47, e204_48, e204_51, e204_52, e204_53, e204_57, e204_60, e204_63, e204_64, e204_67, e204_70, e204_73, e204_74, e204_77, e204_80, e204_81, e204_82, e204_85, e204_86, e204_87, e204_90, e204_96, e204_99, kl_I, kl_R, kl_N, kl_L, oSm, oNn, Option.bind_some, wN, if_pos, if_neg, nS, tN, t0, w0, w1, w2, w3, w4, w5, wm1, upA_ne, upA_same, if_true, if_false, Bool.false_eq_true, ra1, rl1, ra29, rl29, hl, f1, o0]
      refine End.cg j1 ?_
      simp (disch := first | assumption | omega | (simp (disch := omega) only [wN, w0, w1]; omega)) only [e204_0, e204_1, e204_4, e204_5, e204_8, e204_9, e204_10, e204_13, e204_14, e204_16, e204_17, e204_20, e204_21, e204_22, e204_25, e204_26, e204_27, e204_28, e204_29, e204_32, e204_35, e204_36, e204_37, e204_38, e204_39, e204_42, e204_43, e204_46, e204_47, e204_48, e204_51, e204_52, e204_53, e204_57, e204_60, e204_63, e204_64, e204_67, e204_70, e204_73, e204_74, e204_77, e204_80, e204_81, e204_82, e204_85, e204_86, e204_87, e204_90, e204_93, e204_96, e204_99, kl_I, kl_R, kl_N, kl_L, oSm, oNn, Option.bind_some, wN, if_pos, if_neg, nS, tN, t0, w0, w1, w2, w3, w4, w5, wm1, upA_ne, upA_same, if_true, if_false, Bool.false_eq_true]
      exact ih _ ⟨j2, j3, (e3.tr (f4.W (by omega))).tr j4⟩) 0 (Nat.zero_le _)
  obtain ⟨r, σ1, f1, rfl, f3, f4⟩ := M201 (sh := sh) (d := d + 1) (p := 137) (s := s) (σ := σ) (laM hM) (by omega)
  simp (disch := first | assumption | omega | (simp (disch := omega) only [wN, w0, w1]; omega)) only [e204_0, e204_1, e204_4, e204_5, e204_8, e204_9, e204_10, e204_13, e204_14, e204_16, e204_17, e204_20, e204_21, e204_22, e204_25, e204_26, e204_27, e204_28, e204_29, e204_32, e204_35, e204_36, e204_37, e204_38, e204_39, e204_42, e204_43, e204_46, e204_47, e204_48, e204_51, e204_52, e204_53, e204_56, e204_57, e204_60, e204_63, e204_64, e204_67, e204_70, e204_73, e204_74, e204_77, e204_80, e204_81, e204_82, e204_85, e204_86, e204_87, e204_90, e204_93, e204_96, e204_99, kl_I, kl_R, kl_N, kl_L, oSm, oNn, Option.bind_some, wN, if_pos, if_neg, nS, tN, t0, w0, w1, w2, w3, w4, w5, wm1, upA_ne, upA_same, if_true, if_false, Bool.false_eq_true, q204, ra29, rl29, f1]
  refine L _ ⟨f3, ?_, (f4.W (by omega)).tr (frW.f (by omega))⟩
  simp (disch := omega) only [upA_same, up1_same]
  rfl
theorem M205 (hN : σ.1 124 8 = (n : Int)) (hM : MS sh) (hn : n ≤ 4) (hz : i32 z) : run sh (d + 1) 205 [mR 124, mI z] σ = some (some (mI (if z < 0 ∨ ((2 ^ n : Nat) : Int) ≤ z then 0 else 1)), σ) := by
  have mo := hM.1
  have h16 : 2 ^ n ≤ 2 ^ 4 := Nat.pow_le_pow_right (by omega) hn
  have x1 := xshl_1 (k := n) (by omega)
  have p0 : 0 < 2 ^ n := Nat.two_pow_pos _
  have e := E164 (sh := sh) (d := d) (σ := σ) (z := z) (w := 0) (v := ((2 ^ n : Nat) : Int) - 1) hz ⟨by omega, by omega⟩ ⟨by omega, by omega⟩
  by_cases h : z < 0 ∨ ((2 ^ n : Nat) : Int) ≤ z
  · rw [if_neg (by omega)] at e
    rw [if_pos h]
    simp (disch := first | assumption | omega | (simp (disch := omega) only [wN, w0, w1]; omega)) only [e205_0, e205_1, e205_2, e205_3, e205_4, e205_7, e205_8, e205_9, e205_10, e205_13, kl_I, kl_R, kl_N, kl_L, oSm, oNn, Option.bind_some, wN, if_pos, if_neg, nS, tN, t0, w0, w1, w2, w3, w4, w5, wm1, upA_ne, upA_same, if_true, if_false, Bool.false_eq_true, q205, hN, x1, e]
  · rw [if_pos (by omega)] at e
    rw [if_neg h]
    simp (disch := first | assumption | omega | (simp (disch := omega) only [wN, w0, w1]; omega)) only [e205_0, e205_1, e205_2, e205_3, e205_4, e205_7, e205_8, e205_9, e205_10, e205_13, kl_I, kl_R, kl_N, kl_L, oSm, oNn, Option.bind_some, wN, if_pos, if_neg, nS, tN, t0, w0, w1, w2, w3, w4, w5, wm1, upA_ne, upA_same, if_true, if_false, Bool.false_eq_true, q205, hN, x1, e]
end MN

