/-! ===== the reference: draws, place, seed, spend, count ===== -/
section MD
variable {sh : Shp} {d t g n : Nat} {σ : Mem} {a : AX} {z w v u : Int} {c : List Gt}
theorem M192 {k : Nat} (hM : MS sh) (h : InvM sh σ a) (h0 : 0 < k) (h9 : k < 100) : End (run sh d 192 [mR 124, mI (k : Int)] σ) (fun r σ' => r = some (mI ((drN a.1.2.2.2.2.2 % k : Nat) : Int)) ∧ InvM sh σ' ((a.1.1, a.1.2.1, a.1.2.2.1, a.1.2.2.2.1, a.1.2.2.2.2.1, drN a.1.2.2.2.2.2), a.2) ∧ frW 1 0 11 11 σ σ') := by
  have h00 := h
  have mo := hM.1
  have m160 := hM.2.1
  obtain ⟨⟨n, c, m, E, P, x⟩, K, B, s, T⟩ := a
  obtain ⟨⟨hG, hN, hMp, hEl, hx0, hE, hP, hoS⟩, hik, hKp, hTp, h140, hTm⟩ := id h
  replace hG : HGm σ 0 c := hG
  replace hN : σ.1 124 8 = (n : Int) := hN
  replace hMp : σ.1 124 9 = (m : Int) := hMp
  replace hEl : σ.1 124 10 = (E.length : Int) := hEl
  replace hx0 : σ.1 124 11 = (x : Int) := hx0
  replace hE : HEm σ 127 128 E := hE
  replace hP : ∀ y, y < n → σ.1 129 y = (P y : Int) := hP
  replace hoS : okZ n c m E P x := hoS
  replace hTp : HPm σ B s := hTp
  replace h140 : s ≤ 140 := h140
  replace hTm : HT sh σ 157 T := hTm
  replace hik : σ.1 124 16 = bi K.isSome := hik
  obtain ⟨n1, n4', c30, hv, m2, m5, E10, hvE, hPk, x16⟩ := id hoS
  have e : (25173 : Int) * (x : Int) + 13849 = ((25173 * x + 13849 : Nat) : Int) := by omega
  have x1 := xrem_nn (a := 25173 * x + 13849) (b := 65536) (by omega) (by omega)
  rw [show ((65536 : Nat) : Int) = 65536 from rfl] at x1
  have edr : (25173 * x + 13849) % 65536 = drN x := rfl
  rw [edr] at x1
  have hd := drN_lt x
  generalize drN x = dx at x1 hd ⊢
  have x2 := xrem_nn (a := dx) (b := k) (by omega) (by omega)
  have hk0 : ¬ wi (k : Int) = 0 := by rw [wN (by omega)]; omega
  have y6 : ¬ wi 65536 = 0 := by decide
  simp (disch := first | assumption | omega | (simp (disch := omega) only [wN, w0, w1]; omega)) only [e192_0, e192_1, e192_4, e192_5, e192_8, e192_9, e192_12, e192_13, e192_15, e192_16, e192_19, e192_20, e192_23, e192_24, e192_25, kl_I, kl_R, kl_N, kl_L, oSm, oNn, Option.bind_some, wN, if_pos, if_neg, nS, tN, t0, w0, w1, w2, w3, w4, w5, wm1, upA_ne, upA_same, if_true, if_false, Bool.false_eq_true, q192, hx0, e, x1, x2, up1_same]
  refine End.of rfl ⟨rfl, h00.now ⟨?_, ?_, ?_, ?_, ?_, fun j hj => ?_, fun y hy => ?_, ⟨n1, n4', c30, hv, m2, m5, E10, hvE, hPk, hd⟩⟩ (fun i p1 p2 => ?_) (fun i p1 p2 => ?_) ?_ (fun b p1 p2 => ?_) ?_, frW.f (by omega)⟩
  · exact hG.k (by simp (disch := omega) only [upA_ne]) (fun i _ _ => by simp (disch := omega) only [upA_ne])
  all_goals simp (disch := omega) only [upA_same, upA_ne, up1_ne, up1_same]
  · exact hN
  · exact hMp
  · exact hEl
  · exact hE j hj
  · exact hP y hy
theorem M193 (hM : MS sh) (h : InvM sh σ a) (h30 : a.1.2.1.length < 30) : End (run sh (d + 1) 193 [mR 124] σ) (fun r σ' => r = none ∧ InvM sh σ' ((a.1.1, a.1.2.1 ++ [(drG a.1.1 a.1.2.2.2.2.2).1], a.1.2.2.1, a.1.2.2.2.1, a.1.2.2.2.2.1, (drG a.1.1 a.1.2.2.2.2.2).2), a.2)) := by
  have h0 := h
  have mo := hM.1
  have m160 := hM.2.1
  obtain ⟨ra1, rk1, rl1⟩ := ms1 hM
  obtain ⟨⟨n, c, m, E, P, x⟩, K, B, s, T⟩ := a
  obtain ⟨⟨hG, hN, hMp, hEl, hx0, hE, hP, hoS⟩, hik, hKp, hTp, h140, hTm⟩ := id h
  replace hG : HGm σ 0 c := hG
  replace hN : σ.1 124 8 = (n : Int) := hN
  replace hMp : σ.1 124 9 = (m : Int) := hMp
  replace hEl : σ.1 124 10 = (E.length : Int) := hEl
  replace hx0 : σ.1 124 11 = (x : Int) := hx0
  replace hE : HEm σ 127 128 E := hE
  replace hP : ∀ y, y < n → σ.1 129 y = (P y : Int) := hP
  replace hoS : okZ n c m E P x := hoS
  replace hTp : HPm σ B s := hTp
  replace h140 : s ≤ 140 := h140
  replace hTm : HT sh σ 157 T := hTm
  replace hik : σ.1 124 16 = bi K.isSome := hik
  obtain ⟨n1, n4', c30, hv, m2, m5, E10, hvE, hPk, x16⟩ := id hoS
  replace h30 : c.length < 30 := h30
  show End _ (fun r σ' => r = none ∧ InvM sh σ' ((n, c ++ [(drG n x).1], m, E, P, (drG n x).2), K, B, s, T))
  have hok := drG_ok (x := x) n1 n4'
  have hAl : drA n x < n := Nat.mod_lt _ (by omega)
  have hK5 : drK n x < 6 ∧ (n = 1 → drK n x < 3) := by
    unfold drK
    by_cases h : n = 1
    · rw [if_pos h]; have := Nat.mod_lt (drN x) (show 3 > 0 by decide); omega
    · rw [if_neg h]; have := Nat.mod_lt (drN x) (show 6 > 0 by decide); omega
  obtain ⟨r, σ1, e1, rfl, e2, e3⟩ := M192 (d := d) (k := if n = 1 then 3 else 6) hM h0 (by split <;> omega) (by split <;> omega)
  obtain ⟨r, σ2, g1, rfl, g2, g3⟩ := M192 (d := d) (k := n) hM e2 (by omega) (by omega)
  replace e1 : run sh d 192 [mR 124, mI ((if n = 1 then 3 else 6 : Nat) : Int)] σ = some (some (mI (drK n x : Int)), σ1) := e1
  replace g1 : run sh d 192 [mR 124, mI (n : Int)] σ1 = some (some (mI (drA n x : Int)), σ2) := g1
  replace g2 : InvM sh σ2 ((n, c, m, E, P, drN (drN x)), K, B, s, T) := g2
  have hn1 : σ1.1 124 8 = (n : Int) := by rw [e3.2 8 (by omega)]; exact hN
  have hn2 : σ2.1 124 8 = (n : Int) := by rw [g3.2 8 (by omega)]; exact hn1
  have yn : ¬ wi (n : Int) = 0 := by rw [wN (by omega)]; omega
  -- the gate is laid
  have lay : ∀ (σ3 : Mem) (q : Gt) (x' : Nat) (xx : Nat), InvM sh σ3 ((n, c, m, E, P, x'), K, B, s, T) → vG n q → x' < 65536 → ∃ σ4, run sh d 171 [mR 124, mI 0, mI (c.length : Int), mI (q.1 : Int), mI (q.2.1 : Int), mI (rb q), mI (rk q)] σ3 = some (none, σ4) ∧ σ4.1 126 0 = (c.length : Int) ∧ InvM sh (upA σ4.1 126 (up1 (σ4.1 126) 0 ((c.length + 1 : Nat) : Int)), σ4.2) ((n, c ++ [q], m, E, P, x'), K, B, s, T) := by
    intro σ3 q x' xx h3 hq hx'
    obtain ⟨σ4, a1, a2, a3, a4, a5, a6, a7⟩ := E171 (sh := sh) (d := d) (σ := σ3) (t := 0) (g := c.length) (k := (q.1 : Int)) (p := (q.2.1 : Int)) (q := rb q) (r := rk q) hM (by omega) (by omega) (z := 0) rfl
    rw [Nat.mul_zero, Nat.zero_add] at a2 a3 a4 a5 a6
    have hl3 : σ3.1 126 0 = (c.length : Int) := h3.1.1.1
    have hx3 : σ3.1 124 11 = (x' : Int) := h3.1.2.2.2.2.1
    refine ⟨σ4, a1, by rw [(a7.1 126 (by omega) (by omega)).1]; exact hl3, h3.gate (q := q) (x' := x') rfl hq h30 hx' ?_ ?_ ?_ ?_ ?_ (fun i hi => ?_) (fun i hi => ?_) ?_ ?_ (fun b p1 p2 => ?_)⟩
    · simp (disch := omega) only [upA_same, up1_same]
    all_goals simp (disch := omega) only [upA_same, upA_ne, up1_ne]
    · exact a2
    · exact a3
    · exact a4
    · exact a5
    · exact a6 i hi
    · exact a7.2 i (by omega)
    · rw [a7.2 11 (by omega)]; exact hx3
    · rw [(a7.1 126 (by omega) (by omega)).1]
    · exact (a7.1 b (by omega) (by omega)).1
  have hlm : ∀ σ3 : Mem, InvM sh σ3 ((n, c, m, E, P, drN (drN (drN x))), K, B, s, T) → σ3.1 126 0 = (c.length : Int) := fun σ3 q => q.1.1.1
  have hl2 : σ2.1 126 0 = (c.length : Int) := g2.1.1.1
  by_cases hk0 : drK n x = 0
  · obtain ⟨r, σ3, i1, rfl, i2, i3⟩ := M192 (d := d) (k := 8) hM g2 (by omega) (by omega)
    replace i1 : run sh d 192 [mR 124, mI 8] σ2 = some (some (mI ((drN (drN (drN x)) % 8 : Nat) : Int)), σ3) := i1
    have eg : drG n x = ((0, drA n x, ((drN (drN (drN x)) % 8 : Nat) : Int)), drN (drN (drN x))) := by rw [drG, if_pos hk0]
    rw [eg] at hok ⊢
    have hl3 : σ3.1 126 0 = (c.length : Int) := hlm σ3 i2
    obtain ⟨σ4, j1, j2, j3⟩ := lay σ3 _ _ 0 i2 hok.1 hok.2
    replace j1 : run sh d 171 [mR 124, mI 0, mI (c.length : Int), mI 0, mI (drA n x : Int), mI (-1), mI ((drN (drN (drN x)) % 8 : Nat) : Int)] σ3 = some (none, σ4) := j1
    rw [hk0] at e1
    by_cases hn : n = 1
    · rw [if_pos hn] at e1
      simp (disch := first | assumption | omega | (simp (disch := omega) only [wN, w0, w1]; omega)) only [e193_0, e193_1, e193_2, e193_5, e193_6, e193_9, e193_10, e193_13, e193_15, e193_18, e193_19, e193_20, e193_21, e193_24, e193_27, e193_28, e193_29, e193_32, e193_33, e193_35, e193_38, e193_41, e193_42, e193_43, e193_44, e193_45, e193_48, e193_49, e193_50, e193_51, e193_52, e193_53, e193_56, e193_57, e193_58, e193_61, e193_62, e193_63, e193_66, e193_67, e193_70, e193_71, e193_73, e193_74, e193_75, e193_76, e193_79, e193_80, e193_81, e193_82, e193_83, e193_85, e193_86, e193_89, e193_90, e193_93, e193_94, e193_95, e193_98, e193_99, e193_100, e193_101, e193_102, e193_103, kl_I, kl_R, kl_N, kl_L, oSm, oNn, Option.bind_some, wN, if_pos, if_neg, nS, tN, t0, w0, w1, w2, w3, w4, w5, wm1, upA_ne, upA_same, if_true, if_false, Bool.false_eq_true, q193, hN, hn1, ra1, rl1, (show run sh d 192 [mR 124, mI 3] σ = _ from e1), Int.natCast_zero, g1, i1, hl3, j1, j2]
      exact End.of rfl ⟨rfl, j3⟩
    · rw [if_neg hn] at e1
      simp (disch := first | assumption | omega | (simp (disch := omega) only [wN, w0, w1]; omega)) only [e193_0, e193_1, e193_2, e193_5, e193_6, e193_9, e193_10, e193_13, e193_15, e193_18, e193_19, e193_20, e193_21, e193_24, e193_27, e193_28, e193_29, e193_32, e193_33, e193_35, e193_38, e193_41, e193_42, e193_43, e193_44, e193_45, e193_48, e193_49, e193_50, e193_51, e193_52, e193_53, e193_56, e193_57, e193_58, e193_61, e193_62, e193_63, e193_66, e193_67, e193_70, e193_71, e193_73, e193_74, e193_75, e193_76, e193_79, e193_80, e193_81, e193_82, e193_83, e193_85, e193_86, e193_89, e193_90, e193_93, e193_94, e193_95, e193_98, e193_99, e193_100, e193_101, e193_102, e193_103, kl_I, kl_R, kl_N, kl_L, oSm, oNn, Option.bind_some, wN, if_pos, if_neg, nS, tN, t0, w0, w1, w2, w3, w4, w5, wm1, upA_ne, upA_same, if_true, if_false, Bool.false_eq_true, q193, hN, hn1, ra1, rl1, (show run sh d 192 [mR 124, mI 6] σ = _ from e1), Int.natCast_zero, g1, i1, hl3, j1, j2]
      exact End.of rfl ⟨rfl, j3⟩
  · by_cases h3 : 3 ≤ drK n x
    · have hn : n ≠ 1 := fun e => by have := hK5.2 e; omega
      obtain ⟨r, σ3, i1, rfl, i2, i3⟩ := M192 (d := d) (k := n - 1) hM g2 (by omega) (by omega)
      replace i1 : run sh d 192 [mR 124, mI ((n - 1 : Nat) : Int)] σ2 = some (some (mI ((drN (drN (drN x)) % (n - 1) : Nat) : Int)), σ3) := i1
      have em : (n : Int) - 1 = ((n - 1 : Nat) : Int) := by omega
      have mm : drN (drN (drN x)) % (n - 1) < n - 1 := Nat.mod_lt _ (by omega)
      have hl3 : σ3.1 126 0 = (c.length : Int) := hlm σ3 i2
      have hn3 : σ3.1 124 8 = (n : Int) := by rw [i3.2 8 (by omega)]; exact hn2
      have xr := xrem_nn (a := drA n x + 1 + drN (drN (drN x)) % (n - 1)) (b := n) (by omega) (by omega)
      have em2 : (drA n x + 1 + drN (drN (drN x)) % (n - 1)) % n = if drA n x + 1 + drN (drN (drN x)) % (n - 1) < n then drA n x + 1 + drN (drN (drN x)) % (n - 1) else drA n x + 1 + drN (drN (drN x)) % (n - 1) - n := by
        split
        · rename_i q; exact Nat.mod_eq_of_lt q
        · rw [Nat.mod_eq_sub_mod (by omega), Nat.mod_eq_of_lt (by omega)]
      rw [em2] at xr
      have eg : drG n x = ((drK n x, drA n x, ((if drA n x + 1 + drN (drN (drN x)) % (n - 1) < n then drA n x + 1 + drN (drN (drN x)) % (n - 1) else drA n x + 1 + drN (drN (drN x)) % (n - 1) - n : Nat) : Int)), drN (drN (drN x))) := by rw [drG, if_neg hk0, if_pos h3]
      rw [eg] at hok ⊢
      generalize (if drA n x + 1 + drN (drN (drN x)) % (n - 1) < n then drA n x + 1 + drN (drN (drN x)) % (n - 1) else drA n x + 1 + drN (drN (drN x)) % (n - 1) - n) = bb at xr hok ⊢
      rw [if_neg hn] at e1
      obtain ⟨σ4, j1, j2, j3⟩ := lay σ3 _ _ 0 i2 hok.1 hok.2
      have erb : rb (drK n x, drA n x, (bb : Int)) = (bb : Int) := by rw [rb, if_neg (by simp only; omega)]
      have erk : rk (drK n x, drA n x, (bb : Int)) = 0 := by rw [rk, if_neg (by simp only; omega)]
      rw [erb, erk] at j1
      simp (disch := first | assumption | omega | (simp (disch := omega) only [wN, w0, w1]; omega)) only [e193_0, e193_1, e193_2, e193_5, e193_6, e193_9, e193_10, e193_13, e193_15, e193_18, e193_19, e193_20, e193_21, e193_24, e193_27, e193_28, e193_29, e193_32, e193_33, e193_35, e193_38, e193_41, e193_42, e193_43, e193_44, e193_45, e193_48, e193_49, e193_50, e193_51, e193_52, e193_53, e193_56, e193_57, e193_58, e193_61, e193_62, e193_63, e193_66, e193_67, e193_70, e193_71, e193_73, e193_74, e193_75, e193_76, e193_79, e193_80, e193_81, e193_82, e193_83, e193_85, e193_86, e193_89, e193_90, e193_93, e193_94, e193_95, e193_98, e193_99, e193_100, e193_101, e193_102, e193_103, kl_I, kl_R, kl_N, kl_L, oSm, oNn, Option.bind_some, wN, if_pos, if_neg, nS, tN, t0, w0, w1, w2, w3, w4, w5, wm1, upA_ne, upA_same, if_true, if_false, Bool.false_eq_true, q193, hN, hn1, hn2, hn3, ra1, rl1, (show run sh d 192 [mR 124, mI 6] σ = _ from e1), g1, em, i1, ← Int.natCast_add, xr, hl3, j1, j2]
      exact End.of rfl ⟨rfl, j3⟩
    · have eg : drG n x = ((drK n x, drA n x, -1), drN (drN x)) := by rw [drG, if_neg hk0, if_neg h3]
      rw [eg] at hok ⊢
      obtain ⟨σ4, j1, j2, j3⟩ := lay σ2 _ _ 0 g2 hok.1 hok.2
      have erb : rb (drK n x, drA n x, (-1 : Int)) = -1 := by rw [rb, if_pos (by simp only; omega)]
      have erk : rk (drK n x, drA n x, (-1 : Int)) = 0 := by rw [rk, if_neg (by simp only; omega)]
      rw [erb, erk] at j1
      by_cases hn : n = 1
      · rw [if_pos hn] at e1
        simp (disch := first | assumption | omega | (simp (disch := omega) only [wN, w0, w1]; omega)) only [e193_0, e193_1, e193_2, e193_5, e193_6, e193_9, e193_10, e193_13, e193_15, e193_18, e193_19, e193_20, e193_21, e193_24, e193_27, e193_28, e193_29, e193_32, e193_33, e193_35, e193_38, e193_41, e193_42, e193_43, e193_44, e193_45, e193_48, e193_49, e193_50, e193_51, e193_52, e193_53, e193_56, e193_57, e193_58, e193_61, e193_62, e193_63, e193_66, e193_67, e193_70, e193_71, e193_73, e193_74, e193_75, e193_76, e193_79, e193_80, e193_81, e193_82, e193_83, e193_85, e193_86, e193_89, e193_90, e193_93, e193_94, e193_95, e193_98, e193_99, e193_100, e193_101, e193_102, e193_103, kl_I, kl_R, kl_N, kl_L, oSm, oNn, Option.bind_some, wN, if_pos, if_neg, nS, tN, t0, w0, w1, w2, w3, w4, w5, wm1, upA_ne, upA_same, if_true, if_false, Bool.false_eq_true, q193, hN, hn1, ra1, rl1, (show run sh d 192 [mR 124, mI 3] σ = _ from e1), g1, hl2, j1, j2]
        exact End.of rfl ⟨rfl, j3⟩
      · rw [if_neg hn] at e1
        simp (disch := first | assumption | omega | (simp (disch := omega) only [wN, w0, w1]; omega)) only [e193_0, e193_1, e193_2, e193_5, e193_6, e193_9, e193_10, e193_13, e193_15, e193_18, e193_19, e193_20, e193_21, e193_24, e193_27, e193_28, e193_29, e193_32, e193_33, e193_35, e193_38, e193_41, e193_42, e193_43, e193_44, e193_45, e193_48, e193_49, e193_50, e193_51, e193_52, e193_53, e193_56, e193_57, e193_58, e193_61, e193_62, e193_63, e193_66, e193_67, e193_70, e193_71, e193_73, e193_74, e193_75, e193_76, e193_79, e193_80, e193_81, e193_82, e193_83, e193_85, e193_86, e193_89, e193_90, e193_93, e193_94, e193_95, e193_98, e193_99, e193_100, e193_101, e193_102, e193_103, kl_I, kl_R, kl_N, kl_L, oSm, oNn, Option.bind_some, wN, if_pos, if_neg, nS, tN, t0, w0, w1, w2, w3, w4, w5, wm1, upA_ne, upA_same, if_true, if_false, Bool.false_eq_true, q193, hN, hn1, ra1, rl1, (show run sh d 192 [mR 124, mI 6] σ = _ from e1), g1, hl2, j1, j2]
        exact End.of rfl ⟨rfl, j3⟩
theorem M194 (hM : MS sh) (h : InvM sh σ a) (hz : i32 z) : End (run sh (d + 2) 194 [mR 124, mI z] σ) (fun r σ' => r = some (mI (aDraws a z).1) ∧ InvM sh σ' (aDraws a z).2) := by
  have h0 := h
  have mo := hM.1
  have m160 := hM.2.1
  obtain ⟨ra1, rk1, rl1⟩ := ms1 hM
  obtain ⟨⟨n, c, m, E, P, x⟩, K, B, s, T⟩ := a
  obtain ⟨⟨hG, hN, hMp, hEl, hx0, hE, hP, hoS⟩, hik, hKp, hTp, h140, hTm⟩ := id h
  replace hG : HGm σ 0 c := hG
  replace hN : σ.1 124 8 = (n : Int) := hN
  replace hMp : σ.1 124 9 = (m : Int) := hMp
  replace hEl : σ.1 124 10 = (E.length : Int) := hEl
  replace hx0 : σ.1 124 11 = (x : Int) := hx0
  replace hE : HEm σ 127 128 E := hE
  replace hP : ∀ y, y < n → σ.1 129 y = (P y : Int) := hP
  replace hoS : okZ n c m E P x := hoS
  replace hTp : HPm σ B s := hTp
  replace h140 : s ≤ 140 := h140
  replace hTm : HT sh σ 157 T := hTm
  replace hik : σ.1 124 16 = bi K.isSome := hik
  obtain ⟨n1, n4', c30, hv, m2, m5, E10, hvE, hPk, x16⟩ := id hoS
  have e := E164 (sh := sh) (d := d + 1) (σ := σ) (z := z) (w := 1) (v := 10) hz ⟨by omega, by omega⟩ ⟨by omega, by omega⟩
  have hw := hz.w
  have hl := hG.1
  have w30 : wi 30 = 30 := rfl
  unfold aDraws
  by_cases h1 : z < 1 ∨ 10 < z
  · rw [if_pos h1]
    rw [if_neg (by omega)] at e
    simp (disch := first | assumption | omega | (simp (disch := omega) only [wN, w0, w1]; omega)) only [e194_0, e194_1, e194_2, e194_4, e194_7, e194_10, e194_11, e194_12, e194_13, e194_16, e194_17, e194_18, e194_19, e194_20, e194_22, e194_25, e194_27, e194_28, e194_29, e194_30, e194_31, e194_32, e194_35, e194_36, e194_39, e194_42, e194_45, e194_46, e194_49, e194_50, e194_51, kl_I, kl_R, kl_N, kl_L, oSm, oNn, Option.bind_some, wN, if_pos, if_neg, nS, tN, t0, w0, w1, w2, w3, w4, w5, wm1, upA_ne, upA_same, if_true, if_false, Bool.false_eq_true, q194, e]
    exact End.of rfl ⟨rfl, h⟩
  · rw [if_neg h1]
    rw [if_pos (by omega)] at e
    obtain ⟨k, rfl⟩ : ∃ k : Nat, z = (k : Int) := ⟨z.toNat, by omega⟩
    simp only [Int.toNat_natCast]
    have wck : wi ((c.length : Int) + (k : Int)) = (c.length : Int) + (k : Int) := wi_id (by omega) (by omega)
    by_cases h2 : 30 < (c.length : Int) + (k : Int)
    · rw [if_pos h2]
      simp (disch := first | assumption | omega | (simp (disch := omega) only [wN, w0, w1]; omega)) only [e194_0, e194_1, e194_2, e194_4, e194_7, e194_10, e194_11, e194_12, e194_13, e194_16, e194_17, e194_18, e194_19, e194_20, e194_22, e194_25, e194_27, e194_28, e194_29, e194_30, e194_31, e194_32, e194_35, e194_36, e194_39, e194_42, e194_45, e194_46, e194_49, e194_50, e194_51, kl_I, kl_R, kl_N, kl_L, oSm, oNn, Option.bind_some, wN, if_pos, if_neg, nS, tN, t0, w0, w1, w2, w3, w4, w5, wm1, upA_ne, upA_same, if_true, if_false, Bool.false_eq_true, q194, e, ra1, rl1, hl, w30, wck]
      exact End.of rfl ⟨rfl, h⟩
    · rw [if_neg h2]
      have hdc := fun j => drC_ok (x := x) n1 n4' hv x16 j
      have L := for_P (k) (fun i => ∀ (σ1 : Mem), (InvM sh σ1 ((n, (drC n i (c, x)).1, m, E, P, (drC n i (c, x)).2), K, B, s, T)) → End (ev sh (d + 2) 194 30 [some (mR (124)), some (mI ((k : Nat) : Int)), some (mI ((i : Nat) : Int))] [] σ1) (fun r σ' => r = some (mI ((drC n k (c, x)).1.length : Int)) ∧ InvM sh σ' ((n, (drC n k (c, x)).1, m, E, P, (drC n k (c, x)).2), K, B, s, T))) (by
        intro σ1  hp
        replace hp : InvM sh σ1 ((n, (drC n (k) (c, x)).1, m, E, P, (drC n (k) (c, x)).2), K, B, s, T) := hp
        show End (ev sh (d + 2) 194 30 [some (mR (124)), some (mI ((k : Nat) : Int)), some (mI (((k) : Nat) : Int))] [] σ1) (fun r σ' => r = some (mI ((drC n k (c, x)).1.length : Int)) ∧ InvM sh σ' ((n, (drC n k (c, x)).1, m, E, P, (drC n k (c, x)).2), K, B, s, T))
        have hl1 : σ1.1 126 0 = ((drC n k (c, x)).1.length : Int) := hp.1.1.1
        rw [e194_30]
        simp (disch := first | assumption | omega | (simp (disch := omega) only [wN, w0, w1]; omega)) only [e194_0, e194_1, e194_2, e194_4, e194_7, e194_10, e194_11, e194_12, e194_13, e194_16, e194_17, e194_18, e194_19, e194_20, e194_22, e194_25, e194_27, e194_28, e194_29, e194_31, e194_32, e194_35, e194_36, e194_39, e194_42, e194_45, e194_46, e194_49, e194_50, e194_51, kl_I, kl_R, kl_N, kl_L, oSm, oNn, Option.bind_some, wN, if_pos, if_neg, nS, tN, t0, w0, w1, w2, w3, w4, w5, wm1, upA_ne, upA_same, if_true, if_false, Bool.false_eq_true, ra1, rl1, hl1]
        exact End.of rfl ⟨rfl, hp⟩) (fun i hi ih => by
        replace ih : ∀ (σ1 : Mem), (InvM sh σ1 ((n, (drC n (i + 1) (c, x)).1, m, E, P, (drC n (i + 1) (c, x)).2), K, B, s, T)) → End (ev sh (d + 2) 194 30 [some (mR (124)), some (mI ((k : Nat) : Int)), some (mI (((i + 1) : Nat) : Int))] [] σ1) (fun r σ' => r = some (mI ((drC n k (c, x)).1.length : Int)) ∧ InvM sh σ' ((n, (drC n k (c, x)).1, m, E, P, (drC n k (c, x)).2), K, B, s, T)) := ih
        intro σ1  hp
        replace hp : InvM sh σ1 ((n, (drC n i (c, x)).1, m, E, P, (drC n i (c, x)).2), K, B, s, T) := hp
        show End (ev sh (d + 2) 194 30 [some (mR (124)), some (mI ((k : Nat) : Int)), some (mI ((i : Nat) : Int))] [] σ1) (fun r σ' => r = some (mI ((drC n k (c, x)).1.length : Int)) ∧ InvM sh σ' ((n, (drC n k (c, x)).1, m, E, P, (drC n k (c, x)).2), K, B, s, T))
        have h3 := (hdc i).2.2
        obtain ⟨r, σ2, e1, rfl, e2⟩ := M193 (d := d) hM hp (by simp only; omega)
        rw [e194_30]
        simp (disch := first | assumption | omega | (simp (disch := omega) only [wN, w0, w1]; omega)) only [e194_0, e194_1, e194_2, e194_4, e194_7, e194_10, e194_11, e194_12, e194_13, e194_16, e194_17, e194_18, e194_19, e194_20, e194_22, e194_25, e194_27, e194_28, e194_29, e194_31, e194_32, e194_35, e194_36, e194_39, e194_42, e194_45, e194_46, e194_49, e194_50, e194_51, kl_I, kl_R, kl_N, kl_L, oSm, oNn, Option.bind_some, wN, if_pos, if_neg, nS, tN, t0, w0, w1, w2, w3, w4, w5, wm1, upA_ne, upA_same, if_true, if_false, Bool.false_eq_true, e1]
        have e : drC n (i + 1) (c, x) = ((drC n i (c, x)).1 ++ [(drG n (drC n i (c, x)).2).1], (drG n (drC n i (c, x)).2).2) := by rw [drC]
        rw [e] at ih
        simp only at e2
        generalize drG n (drC n i (c, x)).2 = r at e2 ih
        exact ih _ e2) 0 (Nat.zero_le _)
      simp (disch := first | assumption | omega | (simp (disch := omega) only [wN, w0, w1]; omega)) only [e194_0, e194_1, e194_2, e194_4, e194_7, e194_10, e194_11, e194_12, e194_13, e194_16, e194_17, e194_18, e194_19, e194_20, e194_22, e194_25, e194_27, e194_28, e194_29, e194_31, e194_32, e194_35, e194_36, e194_39, e194_42, e194_45, e194_46, e194_49, e194_50, e194_51, kl_I, kl_R, kl_N, kl_L, oSm, oNn, Option.bind_some, wN, if_pos, if_neg, nS, tN, t0, w0, w1, w2, w3, w4, w5, wm1, upA_ne, upA_same, if_true, if_false, Bool.false_eq_true, q194, e, ra1, rl1, hl, w30, wck]
      exact L σ h
end MD

