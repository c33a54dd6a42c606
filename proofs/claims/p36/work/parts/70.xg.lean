/-! ===== same: all turns, all orders ===== -/
section XG
variable {sh : Shp} {d : Nat} {σ : Mem} {a : AX} {S : SB} {z w v : Int}
theorem X137 (hX : XS sh) (h : InvX sh σ a) (hK : a.2.1 = some S) (hn : S.1 = a.1.1) : End (run sh (d + 5) 137 [mR 0] σ) (fun r σ' => r = some (mI (tnS a.1.1 S.2.1 a.1.2.1 (2 ^ a.1.1) : Int)) ∧ InvX sh σ' a) := by
  have ho := hX.1
  have s0 := hX.2.1
  have hck : S.2.1.length ≤ 30 := (h.2.2.1 S hK).2.2.2.1
  have hc30 : a.1.2.1.length ≤ 30 := h.1.2.2.2.1
  have hn4 : a.1.1 ≤ 4 := h.1.2.2.1
  have hso : ob sh 8 5 1 := by
    obtain ⟨ho, s0, s1, s3, s4, s5, s6, s7, s8, s9, s10, s11, s12, s13, hnow, hkep, htap, k43, l43, hspg, hspb, htri, hrow, hcol, hkc, k69, l69, hrou, hfin, hsh, hR⟩ := id hX
    obtain ⟨so, u1, u2, u3, sg, sb, sl⟩ := id hnow
    have sgo := sg.1
    have sbo := sb.1
    have slo := sl.1
    have tpo := htap.1
    have spgo := hspg.1
    have spbo := hspb.1
    have trio := htri.1
    have rowo := hrow.1
    have colo := hcol.1
    have kco := hkc.1
    have rouo := hrou.1
    have fino := hfin.1
    have kpo := hkep.1
    exact so
  have s9 : srf sh 0 9 = 65 := by
    obtain ⟨ho, s0, s1, s3, s4, s5, s6, s7, s8, s9, s10, s11, s12, s13, hnow, hkep, htap, k43, l43, hspg, hspb, htri, hrow, hcol, hkc, k69, l69, hrou, hfin, hsh, hR⟩ := id hX
    obtain ⟨so, u1, u2, u3, sg, sb, sl⟩ := id hnow
    have sgo := sg.1
    have sbo := sb.1
    have slo := sl.1
    have tpo := htap.1
    have spgo := hspg.1
    have spbo := hspb.1
    have trio := htri.1
    have rowo := hrow.1
    have colo := hcol.1
    have kco := hkc.1
    have rouo := hrou.1
    have fino := hfin.1
    have kpo := hkep.1
    exact s9
  have s10 : srf sh 0 10 = 67 := by
    obtain ⟨ho, s0, s1, s3, s4, s5, s6, s7, s8, s9, s10, s11, s12, s13, hnow, hkep, htap, k43, l43, hspg, hspb, htri, hrow, hcol, hkc, k69, l69, hrou, hfin, hsh, hR⟩ := id hX
    obtain ⟨so, u1, u2, u3, sg, sb, sl⟩ := id hnow
    have sgo := sg.1
    have sbo := sb.1
    have slo := sl.1
    have tpo := htap.1
    have spgo := hspg.1
    have spbo := hspb.1
    have trio := htri.1
    have rowo := hrow.1
    have colo := hcol.1
    have kco := hkc.1
    have rouo := hrou.1
    have fino := hfin.1
    have kpo := hkep.1
    exact s10
  have hcol : coS sh 65 := by
    obtain ⟨ho, s0, s1, s3, s4, s5, s6, s7, s8, s9, s10, s11, s12, s13, hnow, hkep, htap, k43, l43, hspg, hspb, htri, hrow, hcol, hkc, k69, l69, hrou, hfin, hsh, hR⟩ := id hX
    obtain ⟨so, u1, u2, u3, sg, sb, sl⟩ := id hnow
    have sgo := sg.1
    have sbo := sb.1
    have slo := sl.1
    have tpo := htap.1
    have spgo := hspg.1
    have spbo := hspb.1
    have trio := htri.1
    have rowo := hrow.1
    have colo := hcol.1
    have kco := hkc.1
    have rouo := hrou.1
    have fino := hfin.1
    have kpo := hkep.1
    exact hcol
  have hkc : coS sh 67 := by
    obtain ⟨ho, s0, s1, s3, s4, s5, s6, s7, s8, s9, s10, s11, s12, s13, hnow, hkep, htap, k43, l43, hspg, hspb, htri, hrow, hcol, hkc, k69, l69, hrou, hfin, hsh, hR⟩ := id hX
    obtain ⟨so, u1, u2, u3, sg, sb, sl⟩ := id hnow
    have sgo := sg.1
    have sbo := sb.1
    have slo := sl.1
    have tpo := htap.1
    have spgo := hspg.1
    have spbo := hspb.1
    have trio := htri.1
    have rowo := hrow.1
    have colo := hcol.1
    have kco := hkc.1
    have rouo := hrou.1
    have fino := hfin.1
    have kpo := hkep.1
    exact hkc
  have h16 : 2 ^ a.1.1 ≤ 2 ^ 4 := Nat.pow_le_pow_right (by omega) hn4
  have hN0 : ∀ σ1, InvX sh σ1 a → σ1.1 1 0 = (a.1.1 : Int) := fun σ1 h1 => h1.1.1.1
  have x1 := xshl_1 (k := a.1.1) (by omega)
  have w8 : wi 8 = 8 := rfl
  have hcolo := hcol.1
  have hkco := hkc.1
  have wp : wi ((2 ^ a.1.1 : Nat) : Int) = ((2 ^ a.1.1 : Nat) : Int) := wN (by omega)
  generalize hnn : a.1.1 = n at *
  generalize hcc : a.1.2.1 = c at *
  generalize hkk : S.2.1 = ck at *
  have L := for_P (2 ^ n) (fun i => ∀ (σ1 : Mem) (v3 : Option MV), (InvX sh σ1 a) → End (ev sh (d + 5) 137 6 [some (mR (0)), some (mI ((tnS n ck c i : Nat) : Int)), some (mI ((i : Nat) : Int)), v3] [] σ1) (fun r σ' => r = some (mI (tnS n ck c (2 ^ n) : Int)) ∧ InvX sh σ' a)) (by
    intro σ1 v3 hp
    replace hp : InvX sh σ1 a := hp
    show End (ev sh (d + 5) 137 6 [some (mR (0)), some (mI ((tnS n ck c (2 ^ n) : Nat) : Int)), some (mI (((2 ^ n) : Nat) : Int)), v3] [] σ1) (fun r σ' => r = some (mI (tnS n ck c (2 ^ n) : Int)) ∧ InvX sh σ' a)
    have hN1 := hN0 _ hp
    rw [e137_6]
    simp (disch := first | assumption | omega | (simp (disch := omega) only [wN, w0, w1]; omega)) only [e137_0, e137_3, e137_4, e137_5, e137_7, e137_8, e137_9, e137_12, e137_15, e137_16, e137_19, e137_20, e137_23, e137_24, e137_25, e137_28, e137_29, e137_31, e137_33, e137_36, e137_37, e137_40, e137_41, e137_44, e137_45, e137_48, e137_51, e137_52, e137_53, e137_54, e137_55, e137_56, e137_57, e137_58, e137_59, e137_62, e137_65, e137_68, e137_71, e137_72, kl_I, kl_R, kl_N, kl_L, oSm, oNn, Option.bind_some, wN, if_pos, if_neg, nS, tN, t0, w0, w1, w2, w3, w4, w5, wm1, upA_ne, upA_same, if_true, if_false, Bool.false_eq_true, s0, hN1, x1, wp]
    exact End.of rfl ⟨rfl, hp⟩) (fun i hi ih => by
    replace ih : ∀ (σ1 : Mem) (v3 : Option MV), (InvX sh σ1 a) → End (ev sh (d + 5) 137 6 [some (mR (0)), some (mI ((tnS n ck c (i + 1) : Nat) : Int)), some (mI (((i + 1) : Nat) : Int)), v3] [] σ1) (fun r σ' => r = some (mI (tnS n ck c (2 ^ n) : Int)) ∧ InvX sh σ' a) := ih
    intro σ1 v3 hp
    replace hp : InvX sh σ1 a := hp
    show End (ev sh (d + 5) 137 6 [some (mR (0)), some (mI ((tnS n ck c i : Nat) : Int)), some (mI ((i : Nat) : Int)), v3] [] σ1) (fun r σ' => r = some (mI (tnS n ck c (2 ^ n) : Int)) ∧ InvX sh σ' a)
    have hN1 := hN0 _ hp
    have b8 : tnS n ck c i < 2 ^ 8 := bts_lt _ _
    have wt : wi (tnS n ck c i : Int) = (tnS n ck c i : Int) := wN (by omega)
    rw [e137_6]
    by_cases hz : tnS n ck c i = 0
    · have hz2 : tnS n ck c (2 ^ n) = tnS n ck c i := by
        rw [hz]
        exact bts_0 hz (fun t _ ht => fa_le (by omega) ht)
      have hzI : (tnS n ck c i : Int) = 0 := by omega
      simp (disch := first | assumption | omega | (simp (disch := omega) only [wN, w0, w1]; omega)) only [e137_0, e137_3, e137_4, e137_5, e137_7, e137_8, e137_9, e137_12, e137_15, e137_16, e137_19, e137_20, e137_23, e137_24, e137_25, e137_28, e137_29, e137_31, e137_33, e137_36, e137_37, e137_40, e137_41, e137_44, e137_45, e137_48, e137_51, e137_52, e137_53, e137_54, e137_55, e137_56, e137_57, e137_58, e137_59, e137_62, e137_65, e137_68, e137_71, e137_72, kl_I, kl_R, kl_N, kl_L, oSm, oNn, Option.bind_some, wN, if_pos, if_neg, nS, tN, t0, w0, w1, w2, w3, w4, w5, wm1, upA_ne, upA_same, if_true, if_false, Bool.false_eq_true, s0, hN1, x1, wp, wt]
      exact End.of rfl ⟨by rw [hz2], hp⟩
    · have hzI : ¬ (tnS n ck c i : Int) = 0 := by omega
      obtain ⟨r, σ2, a1, rfl, a3, a4, a5⟩ := X136 (d := d) (f := i) hX hp hK (by rw [hnn]; exact hn) (by rw [hnn]; exact hi)
      rw [hnn, hcc, hkk] at a4
      obtain ⟨⟨p1, p2, p3⟩, q1', q2', q3'⟩ := a4
      have hle1 := amV_le ck i
      have hle2 := amV_le c i
      have I := for_P (8) (fun t => ∀ (σ3 : Mem), (σ3 = σ2) → End (ev sh (d + 5) 137 30 [some (mR (0)), some (mI ((bts (fun y => fa (fun f => tnB n ck c f y) i 0 && (decide (t ≤ y) || tnB n ck c i y)) 8 : Nat) : Int)), some (mI ((i : Nat) : Int)), some (mI ((t : Nat) : Int))] [] σ3) (fun r σ' => r = some (mI (tnS n ck c (2 ^ n) : Int)) ∧ InvX sh σ' a)) (by
        intro σ3  hp
        replace hp : σ3 = σ2 := hp
        show End (ev sh (d + 5) 137 30 [some (mR (0)), some (mI ((bts (fun y => fa (fun f => tnB n ck c f y) i 0 && (decide ((8) ≤ y) || tnB n ck c i y)) 8 : Nat) : Int)), some (mI ((i : Nat) : Int)), some (mI (((8) : Nat) : Int))] [] σ3) (fun r σ' => r = some (mI (tnS n ck c (2 ^ n) : Int)) ∧ InvX sh σ' a)
        subst hp
        have e : bts (fun y => fa (fun f => tnB n ck c f y) i 0 && (decide (8 ≤ y) || tnB n ck c i y)) 8 = tnS n ck c (i + 1) := bts_cg 8 fun y hy => by
          rw [fa_1, decide_eq_false (by omega)]; rfl
        rw [e137_30, e]
        simp (disch := first | assumption | omega | (simp (disch := omega) only [wN, w0, w1]; omega)) only [e137_0, e137_3, e137_4, e137_5, e137_7, e137_8, e137_9, e137_12, e137_15, e137_16, e137_19, e137_20, e137_23, e137_24, e137_25, e137_28, e137_29, e137_31, e137_33, e137_36, e137_37, e137_40, e137_41, e137_44, e137_45, e137_48, e137_51, e137_52, e137_53, e137_54, e137_55, e137_56, e137_57, e137_58, e137_59, e137_62, e137_65, e137_68, e137_71, e137_72, kl_I, kl_R, kl_N, kl_L, oSm, oNn, Option.bind_some, wN, if_pos, if_neg, nS, tN, t0, w0, w1, w2, w3, w4, w5, wm1, upA_ne, upA_same, if_true, if_false, Bool.false_eq_true, w8]
        exact ih _ _ a3) (fun t hi ih => by
        replace ih : ∀ (σ3 : Mem), (σ3 = σ2) → End (ev sh (d + 5) 137 30 [some (mR (0)), some (mI ((bts (fun y => fa (fun f => tnB n ck c f y) i 0 && (decide ((t + 1) ≤ y) || tnB n ck c i y)) 8 : Nat) : Int)), some (mI ((i : Nat) : Int)), some (mI (((t + 1) : Nat) : Int))] [] σ3) (fun r σ' => r = some (mI (tnS n ck c (2 ^ n) : Int)) ∧ InvX sh σ' a) := ih
        intro σ3  hp
        replace hp : σ3 = σ2 := hp
        show End (ev sh (d + 5) 137 30 [some (mR (0)), some (mI ((bts (fun y => fa (fun f => tnB n ck c f y) i 0 && (decide (t ≤ y) || tnB n ck c i y)) 8 : Nat) : Int)), some (mI ((i : Nat) : Int)), some (mI ((t : Nat) : Int))] [] σ3) (fun r σ' => r = some (mI (tnS n ck c (2 ^ n) : Int)) ∧ InvX sh σ' a)
        subst hp
        have e23 := C23 (d := d + 2) (t := t) hcol q1' q2' (by omega) (amV_bd hc30) hkc p1 p2 (amV_bd hck) q3' p3 (by omega) (by omega) hi
        have ht2 : tnB n ck c i t = true ↔ ((amV c i).2 = (amV ck i).2 ∧ fa (fun y => decide ((amV c i).1 y = tuQ t ((amV ck i).1 y))) (2 ^ n - 0) 0 = true) := by
          unfold tnB
          rw [Bool.and_eq_true, decide_eq_true_eq]
        have b8 := bts_lt (fun y => fa (fun f => tnB n ck c f y) i 0 && (decide (t ≤ y) || tnB n ck c i y)) 8
        have x2 := xshl_1 (k := t) (by omega)
        have x3 := clr_nn (T := bts (fun y => fa (fun f => tnB n ck c f y) i 0 && (decide (t ≤ y) || tnB n ck c i y)) 8) (t := t) (by omega) (by omega)
        rw [e137_30]
        by_cases hb : tnB n ck c i t = true
        · rw [if_pos (ht2.mp hb)] at e23
          have e : bts (fun y => fa (fun f => tnB n ck c f y) i 0 && (decide (t ≤ y) || tnB n ck c i y)) 8 = bts (fun y => fa (fun f => tnB n ck c f y) i 0 && (decide (t + 1 ≤ y) || tnB n ck c i y)) 8 := bts_cg 8 fun y hy => by
            by_cases e : y = t
            · subst e; simp [hb]
            · rw [show decide (t ≤ y) = decide (t + 1 ≤ y) by rw [decide_eq_decide]; omega]
          rw [e]
          simp (disch := first | assumption | omega | (simp (disch := omega) only [wN, w0, w1]; omega)) only [e137_0, e137_3, e137_4, e137_5, e137_7, e137_8, e137_9, e137_12, e137_15, e137_16, e137_19, e137_20, e137_23, e137_24, e137_25, e137_28, e137_29, e137_31, e137_33, e137_36, e137_37, e137_40, e137_41, e137_44, e137_45, e137_48, e137_51, e137_52, e137_53, e137_54, e137_55, e137_56, e137_57, e137_58, e137_59, e137_62, e137_65, e137_68, e137_71, e137_72, kl_I, kl_R, kl_N, kl_L, oSm, oNn, Option.bind_some, wN, if_pos, if_neg, nS, tN, t0, w0, w1, w2, w3, w4, w5, wm1, upA_ne, upA_same, if_true, if_false, Bool.false_eq_true, s9, s10, w8, e23]
          exact ih _ rfl
        · rw [if_neg (fun q => hb (ht2.mpr q))] at e23
          have e := bts_clr (p := fun y => fa (fun f => tnB n ck c f y) i 0 && (decide (t ≤ y) || tnB n ck c i y)) (q := fun y => fa (fun f => tnB n ck c f y) i 0 && (decide (t + 1 ≤ y) || tnB n ck c i y)) (N := 8) (t := t) (fun y hy => by
            by_cases e : t = y
            · subst e; simp [hb]
            · rw [show decide (t ≤ y) = decide (t + 1 ≤ y) by rw [decide_eq_decide]; omega]
              simp [e])
          rw [e] at x3
          simp (disch := first | assumption | omega | (simp (disch := omega) only [wN, w0, w1]; omega)) only [e137_0, e137_3, e137_4, e137_5, e137_7, e137_8, e137_9, e137_12, e137_15, e137_16, e137_19, e137_20, e137_23, e137_24, e137_25, e137_28, e137_29, e137_31, e137_33, e137_36, e137_37, e137_40, e137_41, e137_44, e137_45, e137_48, e137_51, e137_52, e137_53, e137_54, e137_55, e137_56, e137_57, e137_58, e137_59, e137_62, e137_65, e137_68, e137_71, e137_72, kl_I, kl_R, kl_N, kl_L, oSm, oNn, Option.bind_some, wN, if_pos, if_neg, nS, tN, t0, w0, w1, w2, w3, w4, w5, wm1, upA_ne, upA_same, if_true, if_false, Bool.false_eq_true, s9, s10, w8, e23, x2, x3]
          exact ih _ rfl) 0 (Nat.zero_le _)
      have e0 : bts (fun y => fa (fun f => tnB n ck c f y) i 0 && (decide (0 ≤ y) || tnB n ck c i y)) 8 = tnS n ck c i := bts_cg 8 fun y hy => by simp
      have I0 := I σ2 rfl
      rw [e0] at I0
      simp (disch := first | assumption | omega | (simp (disch := omega) only [wN, w0, w1]; omega)) only [e137_0, e137_3, e137_4, e137_5, e137_7, e137_8, e137_9, e137_12, e137_15, e137_16, e137_19, e137_20, e137_23, e137_24, e137_25, e137_28, e137_29, e137_31, e137_33, e137_36, e137_37, e137_40, e137_41, e137_44, e137_45, e137_48, e137_51, e137_52, e137_53, e137_54, e137_55, e137_56, e137_57, e137_58, e137_59, e137_62, e137_65, e137_68, e137_71, e137_72, kl_I, kl_R, kl_N, kl_L, oSm, oNn, Option.bind_some, wN, if_pos, if_neg, nS, tN, t0, w0, w1, w2, w3, w4, w5, wm1, upA_ne, upA_same, if_true, if_false, Bool.false_eq_true, s0, hN1, x1, wp, wt, a1]
      exact I0) 0 (Nat.zero_le _)
  have e0 : tnS n ck c 0 = 255 := by
    have : tnS n ck c 0 = bts (fun _ => true) 8 := bts_cg 8 fun y hy => rfl
    rw [this]; decide
  have L0 := L σ none h
  rw [e0] at L0
  simp (disch := first | assumption | omega | (simp (disch := omega) only [wN, w0, w1]; omega)) only [e137_0, e137_3, e137_4, e137_5, e137_7, e137_8, e137_9, e137_12, e137_15, e137_16, e137_19, e137_20, e137_23, e137_24, e137_25, e137_28, e137_29, e137_31, e137_33, e137_36, e137_37, e137_40, e137_41, e137_44, e137_45, e137_48, e137_51, e137_52, e137_53, e137_54, e137_55, e137_56, e137_57, e137_58, e137_59, e137_62, e137_65, e137_68, e137_71, e137_72, kl_I, kl_R, kl_N, kl_L, oSm, oNn, Option.bind_some, wN, if_pos, if_neg, nS, tN, t0, w0, w1, w2, w3, w4, w5, wm1, upA_ne, upA_same, if_true, if_false, Bool.false_eq_true, q137]
  exact L0
end XG
