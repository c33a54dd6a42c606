/-! ===== the reference: shorter ===== -/
section ND
variable {sh : Shp} {d t g h n : Nat} {σ : Mem} {z : Int} {c : List Gt}
theorem HGm.S {σ' : Mem} {u : Nat} (h : HGm σ u c) (hf : frS t σ σ') (hu : u ≠ t) (hc : c.length ≤ 30) : HGm σ' u c := h.k (hf.2.1 u hu) (fun i h1 h2 => hf.2.2 i (by omega))
theorem HGm.W8 {σ' : Mem} (h : HGm σ t c) (hp : frW 137 138 1 0 σ σ') : HGm σ' t c := h.k (by rw [(hp.1 126 (by omega) (by omega)).1]) (fun _ _ _ => by rw [(hp.1 125 (by omega) (by omega)).1])
theorem M218 (hM : MS sh) (hG : HGm σ t c) (ht : t < 3) (hc : c.length ≤ 30) (hv : okC n c) (hg : g < h) (hh : h < c.length) (hk : (gA c g).1 = (gA c h).1) (hz : z = (t : Int)) : End (run sh (d + 1) 218 [mR 124, mI z, mI (g : Int), mI (h : Int)] σ) (fun r σ' => r = some (mI ((jnS c g h).1 : Int)) ∧ HGm σ' t (jnS c g h).2 ∧ frS t σ σ') := by
  subst hz
  have mo := hM.1
  have m160 := hM.2.1
  obtain ⟨ra0, rk0, rl0⟩ := ms0 hM
  have a0 := of0 (d := d) (z := (t : Int)) hM hG ht hc (by omega : g < c.length) rfl
  have a3 := of3 (d := d) (z := (t : Int)) hM hG ht hc (by omega : g < c.length) rfl
  have b3 := of3 (d := d) (z := (t : Int)) hM hG ht hc hh rfl
  obtain ⟨u1, u2, u3, u4, u5⟩ := hv.at (by omega : g < c.length)
  obtain ⟨v1, v2, v3, v4, v5⟩ := hv.at hh
  unfold jnS
  by_cases e : (gA c g).1 = 0
  · rw [if_pos e]
    have p1 := u3 e
    have p2 := v3 (by omega)
    rw [rk, if_pos e] at a3
    rw [rk, if_pos (by omega)] at b3
    rw [e] at a0
    have x8 : xrem ((gA c g).2.2 + (gA c h).2.2) 8 = ((gA c g).2.2 + (gA c h).2.2) % 8 := by
      have := xrem_nn (a := ((gA c g).2.2 + (gA c h).2.2).toNat) (b := 8) (by omega) (by omega)
      rw [show ((((gA c g).2.2 + (gA c h).2.2).toNat : Nat) : Int) = (gA c g).2.2 + (gA c h).2.2 by omega] at this
      rw [show (8 : Int) = ((8 : Nat) : Int) from rfl, this]
      omega
    have w8 : wi 8 = 8 := rfl
    have hG2 : HGm (upA σ.1 125 (up1 (σ.1 125) (120 * t + 4 * g + 3) (((gA c g).2.2 + (gA c h).2.2) % 8)), σ.2) t (c.set g (0, (gA c g).2.1, ((gA c g).2.2 + (gA c h).2.2) % 8)) := by
      refine ⟨?_, fun y hy => ?_⟩
      · simp (disch := omega) only [upA_ne, List.length_set]
        exact hG.1
      · rw [List.length_set] at hy
        have k := hG.2 y hy
        rw [gA_set (by omega)]
        by_cases q : y = g
        · subst q
          simp (disch := omega) only [upA_same, up1_same, up1_ne]
          simp only [if_true]
          refine ⟨by rw [k.1, e], k.2.1, ?_, rfl⟩
          rw [k.2.2.1, rb, rb, if_pos (by omega), if_pos (by simp)]
        · simp (disch := omega) only [upA_same, up1_ne]
          rw [if_neg q]
          exact k
    obtain ⟨r, σ2, c1, rfl, c2, c3⟩ := M215 (d := d) (g := h) (z := (t : Int)) hM hG2 ht (by rw [List.length_set]; exact hc) (by rw [List.length_set]; exact hh) rfl
    simp (disch := first | assumption | omega | (simp (disch := omega) only [wN, w0, w1]; omega)) only [e218_0, e218_1, e218_2, e218_3, e218_4, e218_7, e218_10, e218_11, e218_14, e218_16, e218_17, e218_18, e218_19, e218_20, e218_21, e218_22, e218_23, e218_24, e218_25, e218_26, e218_27, e218_28, e218_31, e218_32, e218_33, e218_34, e218_35, e218_38, e218_39, e218_41, e218_42, e218_43, e218_44, e218_45, e218_46, e218_49, e218_50, e218_51, e218_52, e218_53, e218_54, e218_57, e218_58, e218_59, e218_60, e218_63, e218_64, kl_I, kl_R, kl_N, kl_L, oSm, oNn, Option.bind_some, wN, if_pos, if_neg, nS, tN, t0, w0, w1, w2, w3, w4, w5, wm1, upA_ne, upA_same, if_true, if_false, Bool.false_eq_true, q218, ra0, rl0, a0, n120, n4, ← Int.natCast_add, nS3, a3, b3, x8, w8, c1]
    refine End.of rfl ⟨rfl, c2, frS.tr ⟨fun a p _ _ _ => upA_ne p, fun y _ => ?_, fun y hy => ?_⟩ c3⟩
    · simp (disch := omega) only [upA_ne]
    · simp (disch := omega) only [upA_same, up1_ne]
  · rw [if_neg e]
    obtain ⟨r, σ1, c1, rfl, c2, c3⟩ := M215 (d := d) (g := h) (z := (t : Int)) hM hG ht hc hh rfl
    have le : (c.eraseIdx h).length = c.length - 1 := List.length_eraseIdx_of_lt hh
    obtain ⟨r, σ2, f1, rfl, f2, f3⟩ := M215 (d := d) (g := g) (z := (t : Int)) hM c2 ht (by omega) (by omega) rfl
    simp (disch := first | assumption | omega | (simp (disch := omega) only [wN, w0, w1]; omega)) only [e218_0, e218_1, e218_2, e218_3, e218_4, e218_7, e218_10, e218_11, e218_14, e218_16, e218_17, e218_18, e218_19, e218_20, e218_21, e218_22, e218_23, e218_24, e218_25, e218_26, e218_27, e218_28, e218_31, e218_32, e218_33, e218_34, e218_35, e218_38, e218_39, e218_41, e218_42, e218_43, e218_44, e218_45, e218_46, e218_49, e218_50, e218_51, e218_52, e218_53, e218_54, e218_57, e218_58, e218_59, e218_60, e218_63, e218_64, kl_I, kl_R, kl_N, kl_L, oSm, oNn, Option.bind_some, wN, if_pos, if_neg, nS, tN, t0, w0, w1, w2, w3, w4, w5, wm1, upA_ne, upA_same, if_true, if_false, Bool.false_eq_true, q218, a0, c1, f1]
    exact End.of rfl ⟨rfl, f2, c3.tr f3⟩
theorem M219 (hM : MS sh) (hG : HGm σ t c) (ht : t < 3) (hc : c.length ≤ 30) (hv : okC n c) (hN : σ.1 124 8 = (n : Int)) (hn : n ≤ 4) (hz : z = (t : Int)) : End (run sh (d + 4) 219 [mR 124, mI z] σ) (fun r σ' => r = some (mI ((shS c).1 : Int)) ∧ HGm σ' t (shS c).2 ∧ frS t σ σ') := by
  subst hz
  have mo := hM.1
  have m160 := hM.2.1
  obtain ⟨ra1, rk1, rl1⟩ := ms1 hM
  let RES2 : Option (Nat × Nat) → Option MV → Mem → Prop := fun o r σ' => match o with
    | some (x, y) => r = some (mI ((jnS c x y).1 : Int)) ∧ HGm σ' t (jnS c x y).2 ∧ frS t σ σ'
    | none => r = some (mI 0) ∧ frW 137 138 1 0 σ σ'
  have P2 : ∀ i, i ≤ c.length → ∀ v3 σ1, frW 137 138 1 0 σ σ1 → End (ev sh (d + 4) 219 51 [some (mR (124)), some (mI ((t : Nat) : Int)), some (mI ((i : Nat) : Int)), v3] [] σ1) (RES2 (fst2 (paB c) c.length (c.length - i) i)) := for_P c.length (fun i => ∀ v3 σ1, frW 137 138 1 0 σ σ1 → End (ev sh (d + 4) 219 51 [some (mR (124)), some (mI ((t : Nat) : Int)), some (mI ((i : Nat) : Int)), v3] [] σ1) (RES2 (fst2 (paB c) c.length (c.length - i) i))) (by
    intro v3 σ1 hp
    have hn1 := (hG.W8 hp).1
    rw [e219_51, Nat.sub_self]
    simp (disch := first | assumption | omega | (simp (disch := omega) only [wN, w0, w1]; omega)) only [e219_0, e219_1, e219_3, e219_4, e219_7, e219_8, e219_9, e219_12, e219_13, e219_14, e219_15, e219_16, e219_19, e219_22, e219_23, e219_24, e219_25, e219_26, e219_29, e219_32, e219_35, e219_36, e219_37, e219_38, e219_41, e219_42, e219_43, e219_46, e219_49, e219_50, e219_52, e219_53, e219_56, e219_57, e219_58, e219_61, e219_62, e219_63, e219_64, e219_66, e219_67, e219_70, e219_71, e219_72, e219_75, e219_76, e219_77, e219_78, e219_79, e219_82, e219_85, e219_86, e219_87, e219_88, e219_89, e219_92, e219_95, e219_96, e219_97, e219_98, e219_99, e219_102, e219_103, e219_106, e219_109, e219_112, e219_115, e219_116, kl_I, kl_R, kl_N, kl_L, oSm, oNn, Option.bind_some, wN, if_pos, if_neg, nS, tN, t0, w0, w1, w2, w3, w4, w5, wm1, upA_ne, upA_same, if_true, if_false, Bool.false_eq_true, ra1, rl1, hn1]
    exact End.of rfl ⟨rfl, hp⟩) (fun x hx ih v3 σ1 hp => by
    have I : ∀ j, j ≤ c.length → ∀ σ1, frW 137 138 1 0 σ σ1 → x < j → End (ev sh (d + 4) 219 65 [some (mR (124)), some (mI ((t : Nat) : Int)), some (mI ((x : Nat) : Int)), some (mI ((j : Nat) : Int))] [] σ1) (RES2 (match fst1 (paB c x) (c.length - j) j with
      | some j => some (x, j)
      | none => fst2 (paB c) c.length (c.length - (x + 1)) (x + 1))) := for_P c.length (fun j => ∀ σ1, frW 137 138 1 0 σ σ1 → x < j → End (ev sh (d + 4) 219 65 [some (mR (124)), some (mI ((t : Nat) : Int)), some (mI ((x : Nat) : Int)), some (mI ((j : Nat) : Int))] [] σ1) (RES2 (match fst1 (paB c x) (c.length - j) j with
      | some j => some (x, j)
      | none => fst2 (paB c) c.length (c.length - (x + 1)) (x + 1)))) (by
      intro σ1 hp _
      have hn1 := (hG.W8 hp).1
      rw [e219_65, fst1_e]
      simp (disch := first | assumption | omega | (simp (disch := omega) only [wN, w0, w1]; omega)) only [e219_0, e219_1, e219_3, e219_4, e219_7, e219_8, e219_9, e219_12, e219_13, e219_14, e219_15, e219_16, e219_19, e219_22, e219_23, e219_24, e219_25, e219_26, e219_29, e219_32, e219_35, e219_36, e219_37, e219_38, e219_41, e219_42, e219_43, e219_46, e219_49, e219_50, e219_52, e219_53, e219_56, e219_57, e219_58, e219_61, e219_62, e219_63, e219_64, e219_66, e219_67, e219_70, e219_71, e219_72, e219_75, e219_76, e219_77, e219_78, e219_79, e219_82, e219_85, e219_86, e219_87, e219_88, e219_89, e219_92, e219_95, e219_96, e219_97, e219_98, e219_99, e219_102, e219_103, e219_106, e219_109, e219_112, e219_115, e219_116, kl_I, kl_R, kl_N, kl_L, oSm, oNn, Option.bind_some, wN, if_pos, if_neg, nS, tN, t0, w0, w1, w2, w3, w4, w5, wm1, upA_ne, upA_same, if_true, if_false, Bool.false_eq_true, ra1, rl1, hn1]
      exact ih _ _ hp) (fun y hy ihy σ1 hp hxy => by
      have hG1 := hG.W8 hp
      have hn1 := hG1.1
      have hN1 : σ1.1 124 8 = (n : Int) := by rw [hp.2 8 (by omega)]; exact hN
      have al := M216 (d := d) (z := (t : Int)) hM hG1 ht hc hv hn hx hy rfl
      rw [e219_65, fst1_s hy]
      by_cases h1 : alB (gA c x) (gA c y) = true
      · rw [h1] at al
        replace al : run sh (d + 3) 216 [mR 124, mI (t : Int), mI (x : Int), mI (y : Int)] σ1 = some (some (mI 1), σ1) := al
        obtain ⟨r, σ2, b1, rfl, b2⟩ := M217 (d := d) (z := (t : Int)) hM hG1 ht hc hv hN1 hn hxy hy rfl
        have hp2 := hp.tr b2
        by_cases h2 : fbB c x y = true
        · have hk : (gA c x).1 = (gA c y).1 := by
            unfold alB at h1
            simp only [Bool.and_eq_true, decide_eq_true_eq] at h1
            exact h1.1
          rw [h2] at b1
          replace b1 : run sh (d + 3) 217 [mR 124, mI (t : Int), mI (x : Int), mI (y : Int)] σ1 = some (some (mI 1), σ2) := b1
          obtain ⟨r, σ3, f1, rfl, f3, f4⟩ := M218 (d := d + 2) (z := (t : Int)) hM (hG.W8 hp2) ht hc hv hxy hy hk rfl
          rw [if_pos (show paB c x y = true by unfold paB; rw [h1, h2]; rfl)]
          simp (disch := first | assumption | omega | (simp (disch := omega) only [wN, w0, w1]; omega)) only [e219_0, e219_1, e219_3, e219_4, e219_7, e219_8, e219_9, e219_12, e219_13, e219_14, e219_15, e219_16, e219_19, e219_22, e219_23, e219_24, e219_25, e219_26, e219_29, e219_32, e219_35, e219_36, e219_37, e219_38, e219_41, e219_42, e219_43, e219_46, e219_49, e219_50, e219_52, e219_53, e219_56, e219_57, e219_58, e219_61, e219_62, e219_63, e219_64, e219_66, e219_67, e219_70, e219_71, e219_72, e219_75, e219_76, e219_77, e219_78, e219_79, e219_82, e219_85, e219_86, e219_87, e219_88, e219_89, e219_92, e219_95, e219_96, e219_97, e219_98, e219_99, e219_102, e219_103, e219_106, e219_109, e219_112, e219_115, e219_116, kl_I, kl_R, kl_N, kl_L, oSm, oNn, Option.bind_some, wN, if_pos, if_neg, nS, tN, t0, w0, w1, w2, w3, w4, w5, wm1, upA_ne, upA_same, if_true, if_false, Bool.false_eq_true, ra1, rl1, hn1, al, b1, f1]
          exact End.of rfl ⟨rfl, f3, hp2.S.tr f4⟩
        · have h2' : fbB c x y = false := by simpa using h2
          rw [h2'] at b1
          replace b1 : run sh (d + 3) 217 [mR 124, mI (t : Int), mI (x : Int), mI (y : Int)] σ1 = some (some (mI 0), σ2) := b1
          rw [if_neg (show ¬ paB c x y = true by unfold paB; simp [h2])]
          simp (disch := first | assumption | omega | (simp (disch := omega) only [wN, w0, w1]; omega)) only [e219_0, e219_1, e219_3, e219_4, e219_7, e219_8, e219_9, e219_12, e219_13, e219_14, e219_15, e219_16, e219_19, e219_22, e219_23, e219_24, e219_25, e219_26, e219_29, e219_32, e219_35, e219_36, e219_37, e219_38, e219_41, e219_42, e219_43, e219_46, e219_49, e219_50, e219_52, e219_53, e219_56, e219_57, e219_58, e219_61, e219_62, e219_63, e219_64, e219_66, e219_67, e219_70, e219_71, e219_72, e219_75, e219_76, e219_77, e219_78, e219_79, e219_82, e219_85, e219_86, e219_87, e219_88, e219_89, e219_92, e219_95, e219_96, e219_97, e219_98, e219_99, e219_102, e219_103, e219_106, e219_109, e219_112, e219_115, e219_116, kl_I, kl_R, kl_N, kl_L, oSm, oNn, Option.bind_some, wN, if_pos, if_neg, nS, tN, t0, w0, w1, w2, w3, w4, w5, wm1, upA_ne, upA_same, if_true, if_false, Bool.false_eq_true, ra1, rl1, hn1, al, b1]
          exact ihy _ hp2 (by omega)
      · have h1' : alB (gA c x) (gA c y) = false := by simpa using h1
        rw [h1'] at al
        replace al : run sh (d + 3) 216 [mR 124, mI (t : Int), mI (x : Int), mI (y : Int)] σ1 = some (some (mI 0), σ1) := al
        rw [if_neg (show ¬ paB c x y = true by unfold paB; simp [h1])]
        simp (disch := first | assumption | omega | (simp (disch := omega) only [wN, w0, w1]; omega)) only [e219_0, e219_1, e219_3, e219_4, e219_7, e219_8, e219_9, e219_12, e219_13, e219_14, e219_15, e219_16, e219_19, e219_22, e219_23, e219_24, e219_25, e219_26, e219_29, e219_32, e219_35, e219_36, e219_37, e219_38, e219_41, e219_42, e219_43, e219_46, e219_49, e219_50, e219_52, e219_53, e219_56, e219_57, e219_58, e219_61, e219_62, e219_63, e219_64, e219_66, e219_67, e219_70, e219_71, e219_72, e219_75, e219_76, e219_77, e219_78, e219_79, e219_82, e219_85, e219_86, e219_87, e219_88, e219_89, e219_92, e219_95, e219_96, e219_97, e219_98, e219_99, e219_102, e219_103, e219_106, e219_109, e219_112, e219_115, e219_116, kl_I, kl_R, kl_N, kl_L, oSm, oNn, Option.bind_some, wN, if_pos, if_neg, nS, tN, t0, w0, w1, w2, w3, w4, w5, wm1, upA_ne, upA_same, if_true, if_false, Bool.false_eq_true, ra1, rl1, hn1, al]
        exact ihy _ hp (by omega))
    have hn1 := (hG.W8 hp).1
    rw [e219_51, fst2_s hx]
    simp (disch := first | assumption | omega | (simp (disch := omega) only [wN, w0, w1]; omega)) only [e219_0, e219_1, e219_3, e219_4, e219_7, e219_8, e219_9, e219_12, e219_13, e219_14, e219_15, e219_16, e219_19, e219_22, e219_23, e219_24, e219_25, e219_26, e219_29, e219_32, e219_35, e219_36, e219_37, e219_38, e219_41, e219_42, e219_43, e219_46, e219_49, e219_50, e219_52, e219_53, e219_56, e219_57, e219_58, e219_61, e219_62, e219_63, e219_64, e219_66, e219_67, e219_70, e219_71, e219_72, e219_75, e219_76, e219_77, e219_78, e219_79, e219_82, e219_85, e219_86, e219_87, e219_88, e219_89, e219_92, e219_95, e219_96, e219_97, e219_98, e219_99, e219_102, e219_103, e219_106, e219_109, e219_112, e219_115, e219_116, kl_I, kl_R, kl_N, kl_L, oSm, oNn, Option.bind_some, wN, if_pos, if_neg, nS, tN, t0, w0, w1, w2, w3, w4, w5, wm1, upA_ne, upA_same, if_true, if_false, Bool.false_eq_true, ra1, rl1, hn1]
    exact I (x + 1) (by omega) _ hp (by omega))
  let RES1 : Option Nat → Option MV → Mem → Prop := fun o r σ' => match o with
    | some x => r = some (mI 1) ∧ HGm σ' t (c.eraseIdx x) ∧ frS t σ σ'
    | none => RES2 (fst2 (paB c) c.length (c.length - 0) 0) r σ'
  have hn1 := hG.1
  have P1 : ∀ i, i ≤ c.length → ∀ v3, End (ev sh (d + 4) 219 2 [some (mR (124)), some (mI ((t : Nat) : Int)), some (mI ((i : Nat) : Int)), v3] [] σ) (RES1 (fst1 (fun x => idB (gA c x)) (c.length - i) i)) := for_P c.length (fun i => ∀ v3, End (ev sh (d + 4) 219 2 [some (mR (124)), some (mI ((t : Nat) : Int)), some (mI ((i : Nat) : Int)), v3] [] σ) (RES1 (fst1 (fun x => idB (gA c x)) (c.length - i) i))) (by
    intro v3
    rw [e219_2, fst1_e]
    simp (disch := first | assumption | omega | (simp (disch := omega) only [wN, w0, w1]; omega)) only [e219_0, e219_1, e219_3, e219_4, e219_7, e219_8, e219_9, e219_12, e219_13, e219_14, e219_15, e219_16, e219_19, e219_22, e219_23, e219_24, e219_25, e219_26, e219_29, e219_32, e219_35, e219_36, e219_37, e219_38, e219_41, e219_42, e219_43, e219_46, e219_49, e219_50, e219_52, e219_53, e219_56, e219_57, e219_58, e219_61, e219_62, e219_63, e219_64, e219_66, e219_67, e219_70, e219_71, e219_72, e219_75, e219_76, e219_77, e219_78, e219_79, e219_82, e219_85, e219_86, e219_87, e219_88, e219_89, e219_92, e219_95, e219_96, e219_97, e219_98, e219_99, e219_102, e219_103, e219_106, e219_109, e219_112, e219_115, e219_116, kl_I, kl_R, kl_N, kl_L, oSm, oNn, Option.bind_some, wN, if_pos, if_neg, nS, tN, t0, w0, w1, w2, w3, w4, w5, wm1, upA_ne, upA_same, if_true, if_false, Bool.false_eq_true, ra1, rl1, hn1]
    exact P2 0 (by omega) _ _ frW.rf) (fun x hx ih v3 => by
    rw [e219_2, fst1_s hx]
    have a0 := of0 (d := d + 3) (z := (t : Int)) hM hG ht hc hx rfl
    have a3 := of3 (d := d + 3) (z := (t : Int)) hM hG ht hc hx rfl
    have k5 := (hv.at hx).1
    have k8 := (hv.at hx).2.2.1
    by_cases h1 : (gA c x).1 = 0
    · rw [rk, if_pos h1] at a3
      have w8 : wi (gA c x).2.2 = (gA c x).2.2 := wi_id (by have := k8 h1; omega) (by have := k8 h1; omega)
      rw [h1] at a0
      by_cases h2 : (gA c x).2.2 = 0
      · obtain ⟨r, σ2, f1, rfl, f3, f4⟩ := M215 (d := d + 3) (g := x) (z := (t : Int)) hM hG ht hc hx rfl
        rw [if_pos (show idB (gA c x) = true by unfold idB; simp [h1, h2])]
        rw [h2] at a3
        simp (disch := first | assumption | omega | (simp (disch := omega) only [wN, w0, w1]; omega)) only [e219_0, e219_1, e219_3, e219_4, e219_7, e219_8, e219_9, e219_12, e219_13, e219_14, e219_15, e219_16, e219_19, e219_22, e219_23, e219_24, e219_25, e219_26, e219_29, e219_32, e219_35, e219_36, e219_37, e219_38, e219_41, e219_42, e219_43, e219_46, e219_49, e219_50, e219_52, e219_53, e219_56, e219_57, e219_58, e219_61, e219_62, e219_63, e219_64, e219_66, e219_67, e219_70, e219_71, e219_72, e219_75, e219_76, e219_77, e219_78, e219_79, e219_82, e219_85, e219_86, e219_87, e219_88, e219_89, e219_92, e219_95, e219_96, e219_97, e219_98, e219_99, e219_102, e219_103, e219_106, e219_109, e219_112, e219_115, e219_116, kl_I, kl_R, kl_N, kl_L, oSm, oNn, Option.bind_some, wN, if_pos, if_neg, nS, tN, t0, w0, w1, w2, w3, w4, w5, wm1, upA_ne, upA_same, if_true, if_false, Bool.false_eq_true, ra1, rl1, hn1, a0, a3, f1]
        exact End.of rfl ⟨rfl, f3, f4⟩
      · rw [if_neg (show ¬ idB (gA c x) = true by unfold idB; simp [h2])]
        simp (disch := first | assumption | omega | (simp (disch := omega) only [wN, w0, w1]; omega)) only [e219_0, e219_1, e219_3, e219_4, e219_7, e219_8, e219_9, e219_12, e219_13, e219_14, e219_15, e219_16, e219_19, e219_22, e219_23, e219_24, e219_25, e219_26, e219_29, e219_32, e219_35, e219_36, e219_37, e219_38, e219_41, e219_42, e219_43, e219_46, e219_49, e219_50, e219_52, e219_53, e219_56, e219_57, e219_58, e219_61, e219_62, e219_63, e219_64, e219_66, e219_67, e219_70, e219_71, e219_72, e219_75, e219_76, e219_77, e219_78, e219_79, e219_82, e219_85, e219_86, e219_87, e219_88, e219_89, e219_92, e219_95, e219_96, e219_97, e219_98, e219_99, e219_102, e219_103, e219_106, e219_109, e219_112, e219_115, e219_116, kl_I, kl_R, kl_N, kl_L, oSm, oNn, Option.bind_some, wN, if_pos, if_neg, nS, tN, t0, w0, w1, w2, w3, w4, w5, wm1, upA_ne, upA_same, if_true, if_false, Bool.false_eq_true, ra1, rl1, hn1, a0, a3, w8]
        exact ih _
    · rw [if_neg (show ¬ idB (gA c x) = true by unfold idB; simp [h1])]
      simp (disch := first | assumption | omega | (simp (disch := omega) only [wN, w0, w1]; omega)) only [e219_0, e219_1, e219_3, e219_4, e219_7, e219_8, e219_9, e219_12, e219_13, e219_14, e219_15, e219_16, e219_19, e219_22, e219_23, e219_24, e219_25, e219_26, e219_29, e219_32, e219_35, e219_36, e219_37, e219_38, e219_41, e219_42, e219_43, e219_46, e219_49, e219_50, e219_52, e219_53, e219_56, e219_57, e219_58, e219_61, e219_62, e219_63, e219_64, e219_66, e219_67, e219_70, e219_71, e219_72, e219_75, e219_76, e219_77, e219_78, e219_79, e219_82, e219_85, e219_86, e219_87, e219_88, e219_89, e219_92, e219_95, e219_96, e219_97, e219_98, e219_99, e219_102, e219_103, e219_106, e219_109, e219_112, e219_115, e219_116, kl_I, kl_R, kl_N, kl_L, oSm, oNn, Option.bind_some, wN, if_pos, if_neg, nS, tN, t0, w0, w1, w2, w3, w4, w5, wm1, upA_ne, upA_same, if_true, if_false, Bool.false_eq_true, ra1, rl1, hn1, a0]
      exact ih _)
  simp (disch := first | assumption | omega | (simp (disch := omega) only [wN, w0, w1]; omega)) only [e219_0, e219_1, e219_3, e219_4, e219_7, e219_8, e219_9, e219_12, e219_13, e219_14, e219_15, e219_16, e219_19, e219_22, e219_23, e219_24, e219_25, e219_26, e219_29, e219_32, e219_35, e219_36, e219_37, e219_38, e219_41, e219_42, e219_43, e219_46, e219_49, e219_50, e219_52, e219_53, e219_56, e219_57, e219_58, e219_61, e219_62, e219_63, e219_64, e219_66, e219_67, e219_70, e219_71, e219_72, e219_75, e219_76, e219_77, e219_78, e219_79, e219_82, e219_85, e219_86, e219_87, e219_88, e219_89, e219_92, e219_95, e219_96, e219_97, e219_98, e219_99, e219_102, e219_103, e219_106, e219_109, e219_112, e219_115, e219_116, kl_I, kl_R, kl_N, kl_L, oSm, oNn, Option.bind_some, wN, if_pos, if_neg, nS, tN, t0, w0, w1, w2, w3, w4, w5, wm1, upA_ne, upA_same, if_true, if_false, Bool.false_eq_true, q219]
  refine (P1 0 (by omega) _).imp (fun r σ' h => ?_)
  unfold shS
  cases h1 : fst1 (fun x => idB (gA c x)) (c.length - 0) 0 with
  | some x => rw [h1] at h; exact h
  | none =>
    rw [h1] at h
    cases h2 : fst2 (paB c) c.length (c.length - 0) 0 with
    | some q => obtain ⟨x, y⟩ := q; simp only [RES1, h2] at h; exact h
    | none =>
      simp only [RES1, h2] at h
      obtain ⟨h3, h4⟩ := h
      exact ⟨h3, hG.W8 h4, h4.S⟩
/-- no step: nothing changes -/
theorem shS_0 (h2 : okC n c) (h0 : (shS c).1 = 0) : (shS c).2 = c := by
  have h9 := h0
  unfold shS at h9 ⊢
  cases q1 : fst1 (fun x => idB (gA c x)) (c.length - 0) 0 with
  | some x => rw [q1] at h9; simp at h9
  | none =>
    rw [q1] at h9
    cases q2 : fst2 (paB c) c.length (c.length - 0) 0 with
    | some q =>
      obtain ⟨x, y⟩ := q
      rw [q2] at h9
      have g1 := fst2_in q2
      have g2 := jnS_ok h2 (x := x) (y := y) (by omega) (by omega) (paB_k g1.2.2.2.2)
      simp only at h9
      omega
    | none => rfl
theorem M220l (hM : MS sh) (ht : t < 3) (hn : n ≤ 4) : ∀ (k : Nat) (σ1 : Mem) (c : List Gt) (s : Nat), c.length ≤ k → k ≤ 30 → s + c.length ≤ 100 → HGm σ1 t (shS c).2 → okC n c → σ1.1 124 8 = (n : Int) →
    End (ev sh (d + 5) 220 8 [some (mR (124)), some (mI ((t : Nat) : Int)), some (mI ((s : Nat) : Int)), some (mI (((shS c).1 : Nat) : Int))] [] σ1) (fun r σ' => r = some (mI ((s + (c.length - (shN k c).length) : Nat) : Int)) ∧ HGm σ' t (shN k c) ∧ frS t σ1 σ') := by
  have mo := hM.1
  intro k
  induction k with
  | zero =>
    intro σ1 c s hk _ hs hG hv hN
    have ok := shS_ok hv
    have h0 : (shS c).1 = 0 := by omega
    rw [shS_0 hv h0] at hG
    rw [h0, e220_8]
    simp (disch := first | assumption | omega | (simp (disch := omega) only [wN, w0, w1]; omega)) only [e220_0, e220_1, e220_2, e220_3, e220_4, e220_7, e220_9, e220_12, e220_13, e220_14, e220_15, e220_16, e220_17, e220_18, e220_21, e220_22, e220_25, e220_26, kl_I, kl_R, kl_N, kl_L, oSm, oNn, Option.bind_some, wN, if_pos, if_neg, nS, tN, t0, w0, w1, w2, w3, w4, w5, wm1, upA_ne, upA_same, if_true, if_false, Bool.false_eq_true]
    exact End.of rfl ⟨by rw [shN]; simp, hG, frS.rf⟩
  | succ k ih =>
    intro σ1 c s hk h30 hs hG hv hN
    have ok := shS_ok hv
    rw [e220_8, shN]
    by_cases h0 : (shS c).1 = 0
    · rw [shS_0 hv h0] at hG
      rw [if_pos h0, h0]
      simp (disch := first | assumption | omega | (simp (disch := omega) only [wN, w0, w1]; omega)) only [e220_0, e220_1, e220_2, e220_3, e220_4, e220_7, e220_9, e220_12, e220_13, e220_14, e220_15, e220_16, e220_17, e220_18, e220_21, e220_22, e220_25, e220_26, kl_I, kl_R, kl_N, kl_L, oSm, oNn, Option.bind_some, wN, if_pos, if_neg, nS, tN, t0, w0, w1, w2, w3, w4, w5, wm1, upA_ne, upA_same, if_true, if_false, Bool.false_eq_true]
      exact End.of rfl ⟨by simp, hG, frS.rf⟩
    · rw [if_neg h0]
      obtain ⟨r, σ2, a1, rfl, a3, a4⟩ := M219 (d := d) (z := (t : Int)) hM hG ht (by omega) ok.1 hN hn rfl
      have hN2 : σ2.1 124 8 = (n : Int) := by rw [a4.1 124 (by omega) (by omega) (by omega) (by omega)]; exact hN
      have l1 := (shN_ok k ok.1).2
      simp (disch := first | assumption | omega | (simp (disch := omega) only [wN, w0, w1]; omega)) only [e220_0, e220_1, e220_2, e220_3, e220_4, e220_7, e220_9, e220_12, e220_13, e220_14, e220_15, e220_16, e220_17, e220_18, e220_21, e220_22, e220_25, e220_26, kl_I, kl_R, kl_N, kl_L, oSm, oNn, Option.bind_some, wN, if_pos, if_neg, nS, tN, t0, w0, w1, w2, w3, w4, w5, wm1, upA_ne, upA_same, if_true, if_false, Bool.false_eq_true, a1, ← Int.natCast_add]
      refine (ih σ2 (shS c).2 (s + (shS c).1) (by omega) (by omega) (by omega) a3 ok.1 hN2).imp (fun r σ' q => ?_)
      refine ⟨?_, q.2.1, a4.tr q.2.2⟩
      rw [q.1, show s + (shS c).1 + ((shS c).2.length - (shN k (shS c).2).length) = s + (c.length - (shN k (shS c).2).length) by omega]
theorem M220 (hM : MS sh) (hG : HGm σ t c) (ht : t < 3) (hc : c.length ≤ 30) (hv : okC n c) (hN : σ.1 124 8 = (n : Int)) (hn : n ≤ 4) (hz : z = (t : Int)) : End (run sh (d + 5) 220 [mR 124, mI z] σ) (fun r σ' => r = some (mI ((c.length - (saS c).length : Nat) : Int)) ∧ HGm σ' t (saS c) ∧ frS t σ σ') := by
  subst hz
  have mo := hM.1
  obtain ⟨r, σ2, a1, rfl, a3, a4⟩ := M219 (d := d) (z := (t : Int)) hM hG ht hc hv hN hn rfl
  have hN2 : σ2.1 124 8 = (n : Int) := by rw [a4.1 124 (by omega) (by omega) (by omega) (by omega)]; exact hN
  simp (disch := first | assumption | omega | (simp (disch := omega) only [wN, w0, w1]; omega)) only [e220_0, e220_1, e220_2, e220_3, e220_4, e220_7, e220_9, e220_12, e220_13, e220_14, e220_15, e220_16, e220_17, e220_18, e220_21, e220_22, e220_25, e220_26, kl_I, kl_R, kl_N, kl_L, oSm, oNn, Option.bind_some, wN, if_pos, if_neg, nS, tN, t0, w0, w1, w2, w3, w4, w5, wm1, upA_ne, upA_same, if_true, if_false, Bool.false_eq_true, q220, a1]
  refine (M220l (d := d) hM ht hn c.length σ2 c 0 (Nat.le_refl _) hc (by omega) a3 hv hN2).imp (fun r σ' q => ?_)
  refine ⟨?_, q.2.1, a4.tr q.2.2⟩
  rw [q.1, Nat.zero_add]; rfl
end ND

