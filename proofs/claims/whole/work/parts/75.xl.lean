/-! ===== bestLook, lasts; cells of layouts ===== -/
section XL
variable {sh : Shp} {d : Nat} {σ : Mem} {a : AX} {z w v i : Int}
theorem X152 (hX : XS sh) (h : InvX sh σ a) (hw' : i32 w) : End (run sh (d + 7) 152 [mR 0, mI w] σ) (fun r σ' => r = some (mI (aBest a w)) ∧ InvX sh σ' a) := by
  have e142 := X142 (d := d + 5) hX h
  obtain ⟨ho, -, -, -, -, -, -, -, -, -, -, -, s12, -, -, -, -, -, -, -, -, -, -, -, -, -, -, hrou, -, hsh, hR⟩ := id hX
  obtain ⟨pro, p0, p1, p2, p3, pcr, pgl, -, -, -, -, -⟩ := id hrou
  have ww := hw'.w
  unfold aBest
  by_cases h1 : w < 0
  · rw [if_pos (Or.inl h1)]
    simp (disch := first | assumption | omega | (simp (disch := omega) only [wN, w0, w1]; omega)) only [e152_0, e152_1, e152_4, e152_5, e152_6, e152_9, e152_10, e152_11, e152_12, e152_15, e152_18, e152_20, e152_21, e152_22, e152_23, e152_26, e152_27, e152_30, e152_32, e152_33, e152_36, e152_37, e152_39, e152_41, e152_42, e152_44, e152_46, e152_47, e152_48, e152_49, e152_52, e152_53, e152_55, e152_58, e152_61, e152_62, e152_65, e152_68, e152_69, e152_72, e152_73, e152_76, e152_79, e152_80, e152_82, e152_84, e152_87, e152_90, e152_92, e152_94, e152_97, e152_98, e152_99, e152_100, e152_103, e152_105, e152_108, e152_109, kl_I, kl_R, kl_N, kl_L, oSm, oNn, Option.bind_some, wN, if_pos, if_neg, nS, tN, t0, w0, w1, w2, w3, w4, w5, wm1, upA_ne, upA_same, if_true, if_false, Bool.false_eq_true, q152, ww]
    exact End.of rfl ⟨rfl, h⟩
  · by_cases h2 : 3 < w
    · rw [if_pos (Or.inr h2)]
      simp (disch := first | assumption | omega | (simp (disch := omega) only [wN, w0, w1]; omega)) only [e152_0, e152_1, e152_4, e152_5, e152_6, e152_9, e152_10, e152_11, e152_12, e152_15, e152_18, e152_20, e152_21, e152_22, e152_23, e152_26, e152_27, e152_30, e152_32, e152_33, e152_36, e152_37, e152_39, e152_41, e152_42, e152_44, e152_46, e152_47, e152_48, e152_49, e152_52, e152_53, e152_55, e152_58, e152_61, e152_62, e152_65, e152_68, e152_69, e152_72, e152_73, e152_76, e152_79, e152_80, e152_82, e152_84, e152_87, e152_90, e152_92, e152_94, e152_97, e152_98, e152_99, e152_100, e152_103, e152_105, e152_108, e152_109, kl_I, kl_R, kl_N, kl_L, oSm, oNn, Option.bind_some, wN, if_pos, if_neg, nS, tN, t0, w0, w1, w2, w3, w4, w5, wm1, upA_ne, upA_same, if_true, if_false, Bool.false_eq_true, q152, ww]
      exact End.of rfl ⟨rfl, h⟩
    · rw [if_neg (by omega)]
      by_cases h3 : a.1.2.2.1 < a.1.1
      · rw [if_pos h3] at e142 ⊢
        simp (disch := first | assumption | omega | (simp (disch := omega) only [wN, w0, w1]; omega)) only [e152_0, e152_1, e152_4, e152_5, e152_6, e152_9, e152_10, e152_11, e152_12, e152_15, e152_18, e152_20, e152_21, e152_22, e152_23, e152_26, e152_27, e152_30, e152_32, e152_33, e152_36, e152_37, e152_39, e152_41, e152_42, e152_44, e152_46, e152_47, e152_48, e152_49, e152_52, e152_53, e152_55, e152_58, e152_61, e152_62, e152_65, e152_68, e152_69, e152_72, e152_73, e152_76, e152_79, e152_80, e152_82, e152_84, e152_87, e152_90, e152_92, e152_94, e152_97, e152_98, e152_99, e152_100, e152_103, e152_105, e152_108, e152_109, kl_I, kl_R, kl_N, kl_L, oSm, oNn, Option.bind_some, wN, if_pos, if_neg, nS, tN, t0, w0, w1, w2, w3, w4, w5, wm1, upA_ne, upA_same, if_true, if_false, Bool.false_eq_true, q152, ww, e142]
        exact End.of rfl ⟨rfl, h⟩
      · rw [if_neg h3] at e142 ⊢
        have beR : ∀ f j, (beL a f j).1 ≤ 1000000000 ∧ 0 ≤ (beL a f j).1 ∧ ((beL a f j).2 = -2 ∨ (0 ≤ (beL a f j).2 ∧ (beL a f j).2 < f + j)) := by
          intro f j
          induction j with
          | zero => exact ⟨by simp [beL], by simp [beL], Or.inl rfl⟩
          | succ j ih =>
            rw [beL]
            split
            · rename_i g
              refine ⟨by simp only; omega, by simp only; omega, Or.inr ⟨by simp only; omega, by simp only; omega⟩⟩
            · refine ⟨ih.1, ih.2.1, ?_⟩
              rcases ih.2.2 with q | q
              · exact Or.inl q
              · exact Or.inr ⟨q.1, by omega⟩
        have main : ∀ f : Nat, (f = 0 ∨ f = 10) → ∀ σ1 v5, InvX sh σ1 a → v5 = some (mI (f : Int)) → End (ev sh (d + 7) 152 44 [some (mR (0)), some (mI (w)), some (mI ((f : Nat) : Int)), some (mI (1000000000)), some (mI ((-2))), v5] [] σ1) (fun r σ' => r = some (mI (if (beL a f 6).2 = -2 ∨ w % 2 = 0 then (beL a f 6).2 else (beL a f 6).1)) ∧ InvX sh σ' a) := by
          intro f hf
          have L := for_P (6) (fun j => ∀ (σ1 : Mem), (InvX sh σ1 a) → End (ev sh (d + 7) 152 44 [some (mR (0)), some (mI (w)), some (mI ((f : Nat) : Int)), some (mI ((beL a f j).1)), some (mI ((beL a f j).2)), some (mI ((f + j : Nat) : Int))] [] σ1) (fun r σ' => r = some (mI (if (beL a f 6).2 = -2 ∨ w % 2 = 0 then (beL a f 6).2 else (beL a f 6).1)) ∧ InvX sh σ' a)) (by
            intro σ1  hp
            replace hp : InvX sh σ1 a := hp
            show End (ev sh (d + 7) 152 44 [some (mR (0)), some (mI (w)), some (mI ((f : Nat) : Int)), some (mI ((beL a f (6)).1)), some (mI ((beL a f (6)).2)), some (mI ((f + (6) : Nat) : Int))] [] σ1) (fun r σ' => r = some (mI (if (beL a f 6).2 = -2 ∨ w % 2 = 0 then (beL a f 6).2 else (beL a f 6).1)) ∧ InvX sh σ' a)
            have wf5 : wi ((f : Int) + 5) = (f : Int) + 5 := wi_id (by omega) (by omega)
            have hb := beR f 6
            have wb : wi (beL a f 6).2 = (beL a f 6).2 := wi_id (by omega) (by omega)
            have wm2 : wi (-2) = -2 := rfl
            have y2 : ¬ wi 2 = 0 := by decide
            have xr := xrem_nn (a := w.toNat) (b := 2) (by omega) (by omega)
            rw [show ((w.toNat : Nat) : Int) = w by omega, show ((2 : Nat) : Int) = 2 from rfl] at xr
            have wm : wi ((w.toNat % 2 : Nat) : Int) = ((w.toNat % 2 : Nat) : Int) := wN (by omega)
            rw [e152_44]
            by_cases g : (beL a f 6).2 = -2
            · rw [if_pos (Or.inl g)]
              simp (disch := first | assumption | omega | (simp (disch := omega) only [wN, w0, w1]; omega)) only [e152_0, e152_1, e152_4, e152_5, e152_6, e152_9, e152_10, e152_11, e152_12, e152_15, e152_18, e152_20, e152_21, e152_22, e152_23, e152_26, e152_27, e152_30, e152_32, e152_33, e152_36, e152_37, e152_39, e152_41, e152_42, e152_46, e152_47, e152_48, e152_49, e152_52, e152_53, e152_55, e152_58, e152_61, e152_62, e152_65, e152_68, e152_69, e152_72, e152_73, e152_76, e152_79, e152_80, e152_82, e152_84, e152_87, e152_90, e152_92, e152_94, e152_97, e152_98, e152_99, e152_100, e152_103, e152_105, e152_108, e152_109, kl_I, kl_R, kl_N, kl_L, oSm, oNn, Option.bind_some, wN, if_pos, if_neg, nS, tN, t0, w0, w1, w2, w3, w4, w5, wm1, upA_ne, upA_same, if_true, if_false, Bool.false_eq_true, wf5, wb, wm2]
              exact End.of rfl ⟨rfl, hp⟩
            · by_cases g2 : w % 2 = 0
              · rw [if_pos (Or.inr g2)]
                simp (disch := first | assumption | omega | (simp (disch := omega) only [wN, w0, w1]; omega)) only [e152_0, e152_1, e152_4, e152_5, e152_6, e152_9, e152_10, e152_11, e152_12, e152_15, e152_18, e152_20, e152_21, e152_22, e152_23, e152_26, e152_27, e152_30, e152_32, e152_33, e152_36, e152_37, e152_39, e152_41, e152_42, e152_46, e152_47, e152_48, e152_49, e152_52, e152_53, e152_55, e152_58, e152_61, e152_62, e152_65, e152_68, e152_69, e152_72, e152_73, e152_76, e152_79, e152_80, e152_82, e152_84, e152_87, e152_90, e152_92, e152_94, e152_97, e152_98, e152_99, e152_100, e152_103, e152_105, e152_108, e152_109, kl_I, kl_R, kl_N, kl_L, oSm, oNn, Option.bind_some, wN, if_pos, if_neg, nS, tN, t0, w0, w1, w2, w3, w4, w5, wm1, upA_ne, upA_same, if_true, if_false, Bool.false_eq_true, wf5, wb, wm2, xr, wm]
                exact End.of rfl ⟨rfl, hp⟩
              · rw [if_neg (fun q => by rcases q with q | q; exact g q; exact g2 q)]
                simp (disch := first | assumption | omega | (simp (disch := omega) only [wN, w0, w1]; omega)) only [e152_0, e152_1, e152_4, e152_5, e152_6, e152_9, e152_10, e152_11, e152_12, e152_15, e152_18, e152_20, e152_21, e152_22, e152_23, e152_26, e152_27, e152_30, e152_32, e152_33, e152_36, e152_37, e152_39, e152_41, e152_42, e152_46, e152_47, e152_48, e152_49, e152_52, e152_53, e152_55, e152_58, e152_61, e152_62, e152_65, e152_68, e152_69, e152_72, e152_73, e152_76, e152_79, e152_80, e152_82, e152_84, e152_87, e152_90, e152_92, e152_94, e152_97, e152_98, e152_99, e152_100, e152_103, e152_105, e152_108, e152_109, kl_I, kl_R, kl_N, kl_L, oSm, oNn, Option.bind_some, wN, if_pos, if_neg, nS, tN, t0, w0, w1, w2, w3, w4, w5, wm1, upA_ne, upA_same, if_true, if_false, Bool.false_eq_true, wf5, wb, wm2, xr, wm]
                exact End.of rfl ⟨rfl, hp⟩) (fun j hi ih => by
            replace ih : ∀ (σ1 : Mem), (InvX sh σ1 a) → End (ev sh (d + 7) 152 44 [some (mR (0)), some (mI (w)), some (mI ((f : Nat) : Int)), some (mI ((beL a f (j + 1)).1)), some (mI ((beL a f (j + 1)).2)), some (mI ((f + (j + 1) : Nat) : Int))] [] σ1) (fun r σ' => r = some (mI (if (beL a f 6).2 = -2 ∨ w % 2 = 0 then (beL a f 6).2 else (beL a f 6).1)) ∧ InvX sh σ' a) := ih
            intro σ1  hp
            replace hp : InvX sh σ1 a := hp
            show End (ev sh (d + 7) 152 44 [some (mR (0)), some (mI (w)), some (mI ((f : Nat) : Int)), some (mI ((beL a f j).1)), some (mI ((beL a f j).2)), some (mI ((f + j : Nat) : Int))] [] σ1) (fun r σ' => r = some (mI (if (beL a f 6).2 = -2 ∨ w % 2 = 0 then (beL a f 6).2 else (beL a f 6).1)) ∧ InvX sh σ' a)
            have wf5 : wi ((f : Int) + 5) = (f : Int) + 5 := wi_id (by omega) (by omega)
            have hlk : lkB ((f + j : Nat) : Int) = true := by unfold lkB; rw [decide_eq_true_eq]; omega
            obtain ⟨r, σ2, a1, a2, a3, a4⟩ := X149 (d := d) hX hp (show i32 ((f + j : Nat) : Int) from ⟨by omega, by omega⟩) hlk
            rw [a2] at a1
            have wm6 : wi (-6) = -6 := rfl
            rw [e152_44]
            rcases frR0_lt (a := a) (z := ((f + j : Nat) : Int)) with ⟨e, g⟩ | ⟨e, g, g2⟩ | ⟨e, g, g2⟩
            · exact absurd g h3
            · rw [e] at a1
              have eb : beL a f (j + 1) = beL a f j := by rw [beL, if_neg (fun q => by rw [g2] at q; cases q.1)]
              rw [eb] at ih
              simp (disch := first | assumption | omega | (simp (disch := omega) only [wN, w0, w1]; omega)) only [e152_0, e152_1, e152_4, e152_5, e152_6, e152_9, e152_10, e152_11, e152_12, e152_15, e152_18, e152_20, e152_21, e152_22, e152_23, e152_26, e152_27, e152_30, e152_32, e152_33, e152_36, e152_37, e152_39, e152_41, e152_42, e152_46, e152_47, e152_48, e152_49, e152_52, e152_53, e152_55, e152_58, e152_61, e152_62, e152_65, e152_68, e152_69, e152_72, e152_73, e152_76, e152_79, e152_80, e152_82, e152_84, e152_87, e152_90, e152_92, e152_94, e152_97, e152_98, e152_99, e152_100, e152_103, e152_105, e152_108, e152_109, kl_I, kl_R, kl_N, kl_L, oSm, oNn, Option.bind_some, wN, if_pos, if_neg, nS, tN, t0, w0, w1, w2, w3, w4, w5, wm1, upA_ne, upA_same, if_true, if_false, Bool.false_eq_true, wf5, a1, wm6]
              exact ih _ a3
            · rw [e] at a1
              obtain ⟨b1, b2, b3, b4, b5, b6, b7⟩ := ro_ok hX a3 (a4 g g2)
              have hb := beR f j
              have wl' : wi (beL a f j).1 = (beL a f j).1 := wi_id (by omega) (by omega)
              by_cases g3 : ((rtA a ((f + j : Nat) : Int)).1.2.2 : Int) < (beL a f j).1
              · have eb : beL a f (j + 1) = (((rtA a ((f + j : Nat) : Int)).1.2.2 : Int), ((f + j : Nat) : Int)) := by rw [beL, if_pos ⟨g2, g3⟩]
                rw [eb] at ih
                simp (disch := first | assumption | omega | (simp (disch := omega) only [wN, w0, w1]; omega)) only [e152_0, e152_1, e152_4, e152_5, e152_6, e152_9, e152_10, e152_11, e152_12, e152_15, e152_18, e152_20, e152_21, e152_22, e152_23, e152_26, e152_27, e152_30, e152_32, e152_33, e152_36, e152_37, e152_39, e152_41, e152_42, e152_46, e152_47, e152_48, e152_49, e152_52, e152_53, e152_55, e152_58, e152_61, e152_62, e152_65, e152_68, e152_69, e152_72, e152_73, e152_76, e152_79, e152_80, e152_82, e152_84, e152_87, e152_90, e152_92, e152_94, e152_97, e152_98, e152_99, e152_100, e152_103, e152_105, e152_108, e152_109, kl_I, kl_R, kl_N, kl_L, oSm, oNn, Option.bind_some, wN, if_pos, if_neg, nS, tN, t0, w0, w1, w2, w3, w4, w5, wm1, upA_ne, upA_same, if_true, if_false, Bool.false_eq_true, wf5, a1, s12, b1, wl']
                exact ih _ a3
              · have eb : beL a f (j + 1) = beL a f j := by rw [beL, if_neg (fun q => g3 q.2)]
                rw [eb] at ih
                simp (disch := first | assumption | omega | (simp (disch := omega) only [wN, w0, w1]; omega)) only [e152_0, e152_1, e152_4, e152_5, e152_6, e152_9, e152_10, e152_11, e152_12, e152_15, e152_18, e152_20, e152_21, e152_22, e152_23, e152_26, e152_27, e152_30, e152_32, e152_33, e152_36, e152_37, e152_39, e152_41, e152_42, e152_46, e152_47, e152_48, e152_49, e152_52, e152_53, e152_55, e152_58, e152_61, e152_62, e152_65, e152_68, e152_69, e152_72, e152_73, e152_76, e152_79, e152_80, e152_82, e152_84, e152_87, e152_90, e152_92, e152_94, e152_97, e152_98, e152_99, e152_100, e152_103, e152_105, e152_108, e152_109, kl_I, kl_R, kl_N, kl_L, oSm, oNn, Option.bind_some, wN, if_pos, if_neg, nS, tN, t0, w0, w1, w2, w3, w4, w5, wm1, upA_ne, upA_same, if_true, if_false, Bool.false_eq_true, wf5, a1, s12, b1, wl']
                exact ih _ a3) 0 (Nat.zero_le _)
          intro σ1 v5 h5 hv5
          rw [hv5]
          exact L σ1 h5
        by_cases h4 : w < 2
        · rw [if_pos h4]
          simp (disch := first | assumption | omega | (simp (disch := omega) only [wN, w0, w1]; omega)) only [e152_0, e152_1, e152_4, e152_5, e152_6, e152_9, e152_10, e152_11, e152_12, e152_15, e152_18, e152_20, e152_21, e152_22, e152_23, e152_26, e152_27, e152_30, e152_32, e152_33, e152_36, e152_37, e152_39, e152_41, e152_42, e152_46, e152_47, e152_48, e152_49, e152_52, e152_53, e152_55, e152_58, e152_61, e152_62, e152_65, e152_68, e152_69, e152_72, e152_73, e152_76, e152_79, e152_80, e152_82, e152_84, e152_87, e152_90, e152_92, e152_94, e152_97, e152_98, e152_99, e152_100, e152_103, e152_105, e152_108, e152_109, kl_I, kl_R, kl_N, kl_L, oSm, oNn, Option.bind_some, wN, if_pos, if_neg, nS, tN, t0, w0, w1, w2, w3, w4, w5, wm1, upA_ne, upA_same, if_true, if_false, Bool.false_eq_true, q152, ww, e142]
          exact main 0 (Or.inl rfl) σ _ h rfl
        · rw [if_neg h4]
          simp (disch := first | assumption | omega | (simp (disch := omega) only [wN, w0, w1]; omega)) only [e152_0, e152_1, e152_4, e152_5, e152_6, e152_9, e152_10, e152_11, e152_12, e152_15, e152_18, e152_20, e152_21, e152_22, e152_23, e152_26, e152_27, e152_30, e152_32, e152_33, e152_36, e152_37, e152_39, e152_41, e152_42, e152_46, e152_47, e152_48, e152_49, e152_52, e152_53, e152_55, e152_58, e152_61, e152_62, e152_65, e152_68, e152_69, e152_72, e152_73, e152_76, e152_79, e152_80, e152_82, e152_84, e152_87, e152_90, e152_92, e152_94, e152_97, e152_98, e152_99, e152_100, e152_103, e152_105, e152_108, e152_109, kl_I, kl_R, kl_N, kl_L, oSm, oNn, Option.bind_some, wN, if_pos, if_neg, nS, tN, t0, w0, w1, w2, w3, w4, w5, wm1, upA_ne, upA_same, if_true, if_false, Bool.false_eq_true, q152, ww, e142]
          exact main 10 (Or.inr rfl) σ _ h rfl
theorem X158 (hX : XS sh) (h : InvX sh σ a) (hw' : i32 w) (hz : i32 z) : End (run sh (d + 7) 158 [mR 0, mI w, mI z] σ) (fun r σ' => r = some (mI (aLasts a w z)) ∧ InvX sh σ' a) := by
  have e148 := X148 (sh := sh) (d := d + 5) (σ := σ) hz
  have h0 := h
  have hX0 := hX
  obtain ⟨ho, s0, s1, s3, s4, s5, s6, s7, s8, s9, s10, s11, s12, s13, hnow, hkep, htap, k43, l43, hspg, hspb, htri, hrow, hcol, hkc, k69, l69, hrou, hfin, hsh, hR⟩ := id hX
  obtain ⟨so, u1, u2, u3, sg, sb, sl⟩ := id hnow
  have sgo := sg.1
  have sbo := sb.1
  have slo := sl.1
  have tpo := htap.1
  have spgo := hspg.1
  have spbo := hspb.1
  have trio := htri.1
  have rowo := hrow.1
  have colo := hcol.1
  have kco := hkc.1
  have rouo := hrou.1
  have fino := hfin.1
  have kpo := hkep.1
  obtain ⟨pro, p0, p1, p2, p3, pcr, pgl, -, -, -, -, -⟩ := id hrou
  have pgo := pgl.1
  have ww := hw'.w
  have hm5 : a.1.2.2.1 ≤ 5 := h.1.2.2.2.2.2.2.1
  unfold aLasts
  by_cases h1 : w = 0 ∨ w = 1
  · rw [if_pos h1]
    obtain ⟨⟨n, c, m, E, P, x⟩, K, B, s, T⟩ := a
    obtain ⟨⟨hS, hoS⟩, hik, hKp, hTp, h140, hTm, hT1⟩ := id h
    replace hS : HS σ 1 n c m E P (x : Int) := hS
    replace hoS : okZ n c m E P x := hoS
    replace hTp : HP σ 41 B s := hTp
    replace h140 : s ≤ 140 := h140
    replace hTm : HT sh σ 43 T := hTm
    replace hik : σ.1 0 2 = bi K.isSome := hik
    obtain ⟨hS0, hSG, hSB, hSF, hSL, hSx⟩ := id hS
    obtain ⟨n1, n4', c30, hv, m2, m5, E10, hvE, hPk, x16⟩ := id hoS
    have hg7 : ∀ F, InvX sh (upA σ.1 7 F, σ.2) ((n, c, m, E, P, x), K, B, s, T) := fun F => h.g (frI.up (by omega)) (by omega)
    rcases h1 with rfl | rfl
    · have e64 : run sh (d + 6) 64 [mR 2, mR 43, mI 0] σ = _ := L64 (d := d + 2) (lo := false) sg hSG c30 (by omega) hv (by omega) hTm (by omega)
      simp (disch := first | assumption | omega | (simp (disch := omega) only [wN, w0, w1]; omega)) only [e158_0, e158_1, e158_4, e158_5, e158_6, e158_9, e158_10, e158_13, e158_16, e158_17, e158_20, e158_21, e158_22, e158_25, e158_26, e158_29, e158_30, e158_33, e158_34, e158_35, e158_36, e158_39, e158_40, e158_43, e158_46, e158_47, e158_48, e158_49, e158_50, e158_53, e158_54, e158_55, e158_58, e158_59, e158_62, e158_63, e158_66, e158_69, e158_70, e158_73, e158_74, e158_77, kl_I, kl_R, kl_N, kl_L, oSm, oNn, Option.bind_some, wN, if_pos, if_neg, nS, tN, t0, w0, w1, w2, w3, w4, w5, wm1, upA_ne, upA_same, if_true, if_false, Bool.false_eq_true, q158, s0, s4, u1, e64]
      exact End.of rfl ⟨rfl, hg7 _⟩
    · have e64 : run sh (d + 6) 64 [mR 2, mR 43, mI 1] σ = _ := L64 (d := d + 2) (lo := true) sg hSG c30 (by omega) hv (by omega) hTm (by omega)
      simp (disch := first | assumption | omega | (simp (disch := omega) only [wN, w0, w1]; omega)) only [e158_0, e158_1, e158_4, e158_5, e158_6, e158_9, e158_10, e158_13, e158_16, e158_17, e158_20, e158_21, e158_22, e158_25, e158_26, e158_29, e158_30, e158_33, e158_34, e158_35, e158_36, e158_39, e158_40, e158_43, e158_46, e158_47, e158_48, e158_49, e158_50, e158_53, e158_54, e158_55, e158_58, e158_59, e158_62, e158_63, e158_66, e158_69, e158_70, e158_73, e158_74, e158_77, kl_I, kl_R, kl_N, kl_L, oSm, oNn, Option.bind_some, wN, if_pos, if_neg, nS, tN, t0, w0, w1, w2, w3, w4, w5, wm1, upA_ne, upA_same, if_true, if_false, Bool.false_eq_true, q158, s0, s4, u1, e64]
      exact End.of rfl ⟨rfl, hg7 _⟩
  · rw [if_neg h1]
    by_cases h2 : w = 2
    · by_cases h3 : lkB z = false
      · rw [if_pos (Or.inr h3)]
        rw [h3] at e148
        have e148 : run sh (d + 6) 148 [mI z] σ = some (some (mI 0), σ) := e148
        simp (disch := first | assumption | omega | (simp (disch := omega) only [wN, w0, w1]; omega)) only [e158_0, e158_1, e158_4, e158_5, e158_6, e158_9, e158_10, e158_13, e158_16, e158_17, e158_20, e158_21, e158_22, e158_25, e158_26, e158_29, e158_30, e158_33, e158_34, e158_35, e158_36, e158_39, e158_40, e158_43, e158_46, e158_47, e158_48, e158_49, e158_50, e158_53, e158_54, e158_55, e158_58, e158_59, e158_62, e158_63, e158_66, e158_69, e158_70, e158_73, e158_74, e158_77, kl_I, kl_R, kl_N, kl_L, oSm, oNn, Option.bind_some, wN, if_pos, if_neg, nS, tN, t0, w0, w1, w2, w3, w4, w5, wm1, upA_ne, upA_same, if_true, if_false, Bool.false_eq_true, q158, ww, e148]
        exact End.of rfl ⟨rfl, h⟩
      · rw [if_neg (fun q => by rcases q with q | q; exact q h2; exact h3 q)]
        have h1t : lkB z = true := by simpa using h3
        rw [h1t] at e148
        have e148 : run sh (d + 6) 148 [mI z] σ = some (some (mI 1), σ) := e148
        obtain ⟨r, σ1, a1, a2, a3, a4⟩ := X149 (d := d) hX h hz h1t
        rw [a2] at a1
        have wm3 : wi (-3) = -3 := rfl
        have wm6 : wi (-6) = -6 := rfl
        rcases frR0_lt (a := a) (z := z) with ⟨e, g⟩ | ⟨e, g, g2⟩ | ⟨e, g, g2⟩
        · rw [if_pos g]
          rw [e] at a1
          simp (disch := first | assumption | omega | (simp (disch := omega) only [wN, w0, w1]; omega)) only [e158_0, e158_1, e158_4, e158_5, e158_6, e158_9, e158_10, e158_13, e158_16, e158_17, e158_20, e158_21, e158_22, e158_25, e158_26, e158_29, e158_30, e158_33, e158_34, e158_35, e158_36, e158_39, e158_40, e158_43, e158_46, e158_47, e158_48, e158_49, e158_50, e158_53, e158_54, e158_55, e158_58, e158_59, e158_62, e158_63, e158_66, e158_69, e158_70, e158_73, e158_74, e158_77, kl_I, kl_R, kl_N, kl_L, oSm, oNn, Option.bind_some, wN, if_pos, if_neg, nS, tN, t0, w0, w1, w2, w3, w4, w5, wm1, upA_ne, upA_same, if_true, if_false, Bool.false_eq_true, q158, ww, e148, a1, wm3]
          exact End.of rfl ⟨rfl, a3⟩
        · rw [if_neg g, if_pos g2]
          rw [e] at a1
          simp (disch := first | assumption | omega | (simp (disch := omega) only [wN, w0, w1]; omega)) only [e158_0, e158_1, e158_4, e158_5, e158_6, e158_9, e158_10, e158_13, e158_16, e158_17, e158_20, e158_21, e158_22, e158_25, e158_26, e158_29, e158_30, e158_33, e158_34, e158_35, e158_36, e158_39, e158_40, e158_43, e158_46, e158_47, e158_48, e158_49, e158_50, e158_53, e158_54, e158_55, e158_58, e158_59, e158_62, e158_63, e158_66, e158_69, e158_70, e158_73, e158_74, e158_77, kl_I, kl_R, kl_N, kl_L, oSm, oNn, Option.bind_some, wN, if_pos, if_neg, nS, tN, t0, w0, w1, w2, w3, w4, w5, wm1, upA_ne, upA_same, if_true, if_false, Bool.false_eq_true, q158, ww, e148, a1, wm6]
          exact End.of rfl ⟨rfl, a3⟩
        · rw [if_neg g, if_neg (by rw [g2]; simp)]
          rw [e] at a1
          obtain ⟨b1, b2, b3, b4, b5, b6, b7⟩ := ro_ok hX a3 (a4 g g2)
          have hTm : HT sh σ1 43 a.2.2.2.2 := a3.2.2.2.2.2.1
          have e64 : run sh (d + 6) 64 [mR 92, mR 43, mI 0] σ1 = _ := L64 (d := d + 2) (lo := false) pgl b2 b3 (by omega) (a4 g g2).2.2 hm5 hTm (by omega)
          simp (disch := first | assumption | omega | (simp (disch := omega) only [wN, w0, w1]; omega)) only [e158_0, e158_1, e158_4, e158_5, e158_6, e158_9, e158_10, e158_13, e158_16, e158_17, e158_20, e158_21, e158_22, e158_25, e158_26, e158_29, e158_30, e158_33, e158_34, e158_35, e158_36, e158_39, e158_40, e158_43, e158_46, e158_47, e158_48, e158_49, e158_50, e158_53, e158_54, e158_55, e158_58, e158_59, e158_62, e158_63, e158_66, e158_69, e158_70, e158_73, e158_74, e158_77, kl_I, kl_R, kl_N, kl_L, oSm, oNn, Option.bind_some, wN, if_pos, if_neg, nS, tN, t0, w0, w1, w2, w3, w4, w5, wm1, upA_ne, upA_same, if_true, if_false, Bool.false_eq_true, q158, ww, e148, a1, s4, s12, p1, e64]
          exact End.of rfl ⟨rfl, a3.B (frI.B (frI.up (x := 70) (y := 100) (by omega))) (by omega) (by omega)⟩
    · rw [if_pos (Or.inl h2)]
      simp (disch := first | assumption | omega | (simp (disch := omega) only [wN, w0, w1]; omega)) only [e158_0, e158_1, e158_4, e158_5, e158_6, e158_9, e158_10, e158_13, e158_16, e158_17, e158_20, e158_21, e158_22, e158_25, e158_26, e158_29, e158_30, e158_33, e158_34, e158_35, e158_36, e158_39, e158_40, e158_43, e158_46, e158_47, e158_48, e158_49, e158_50, e158_53, e158_54, e158_55, e158_58, e158_59, e158_62, e158_63, e158_66, e158_69, e158_70, e158_73, e158_74, e158_77, kl_I, kl_R, kl_N, kl_L, oSm, oNn, Option.bind_some, wN, if_pos, if_neg, nS, tN, t0, w0, w1, w2, w3, w4, w5, wm1, upA_ne, upA_same, if_true, if_false, Bool.false_eq_true, q158, ww]
      exact End.of rfl ⟨rfl, h⟩
end XL
section LYX
variable {sh : Shp} {d l o n m k : Nat} {σ : Mem} {P : Nat → Nat}
theorem Y76x (hs : lyS sh l) (hs2 : lyS sh o) (hap : o + 2 < l ∨ l + 2 < o) (hn : n ≤ 4) (hL : HL σ o n P) : End (run sh (d + 1) 76 [mR l, mR o] σ) (fun r σ' => r = none ∧ HL σ' l n P ∧ frI (l + 1) (l + 2) σ σ' ∧ ∀ x, σ'.1 (l + 1) x = if x < 4 then σ.1 (o + 1) x else σ.1 (l + 1) x) := by
  obtain ⟨ho, r0, r1, k1, k2, l1, l2, hw⟩ := id hs
  obtain ⟨ho2, t0', t1', k21, k22, l21, l22, hw2⟩ := id hs2
  have L2 := for_P (5) (fun i => ∀ (σ1 : Mem), ((∀ x, σ1.1 (l + 1) x = if x < 4 then σ.1 (o + 1) x else σ.1 (l + 1) x) ∧ (∀ x, x < i → σ1.1 (l + 2) x = σ.1 (o + 2) x) ∧ frI (l + 1) (l + 2) σ σ1) → End (ev sh (d + 1) 76 27 [some (mR (l)), some (mR (o)), some (mI ((i : Nat) : Int))] [] σ1) (fun r σ' => r = none ∧ HL σ' l n P ∧ frI (l + 1) (l + 2) σ σ' ∧ ∀ x, σ'.1 (l + 1) x = if x < 4 then σ.1 (o + 1) x else σ.1 (l + 1) x)) (by
    intro σ1  hp
    replace hp : (∀ x, σ1.1 (l + 1) x = if x < 4 then σ.1 (o + 1) x else σ.1 (l + 1) x) ∧ (∀ x, x < (5) → σ1.1 (l + 2) x = σ.1 (o + 2) x) ∧ frI (l + 1) (l + 2) σ σ1 := hp
    show End (ev sh (d + 1) 76 27 [some (mR (l)), some (mR (o)), some (mI (((5) : Nat) : Int))] [] σ1) (fun r σ' => r = none ∧ HL σ' l n P ∧ frI (l + 1) (l + 2) σ σ' ∧ ∀ x, σ'.1 (l + 1) x = if x < 4 then σ.1 (o + 1) x else σ.1 (l + 1) x)
    rw [e76_27]
    simp (disch := first | assumption | omega | (simp (disch := omega) only [wN, w0, w1]; omega)) only [e76_0, e76_1, e76_3, e76_4, e76_7, e76_8, e76_11, e76_12, e76_13, e76_16, e76_17, e76_18, e76_19, e76_22, e76_25, e76_26, e76_28, e76_29, e76_32, e76_33, e76_36, e76_37, e76_38, e76_41, e76_42, e76_43, e76_44, e76_47, e76_50, kl_I, kl_R, kl_N, kl_L, oSm, oNn, Option.bind_some, wN, if_pos, if_neg, nS, tN, t0, w0, w1, w2, w3, w4, w5, wm1, upA_ne, upA_same, if_true, if_false, Bool.false_eq_true]
    refine End.of rfl ⟨rfl, ⟨fun x hx => ?_, fun p hp2 => ?_⟩, hp.2.2, hp.1⟩
    · rw [hp.1 x, if_pos (by omega)]; exact hL.1 x hx
    · rw [hp.2.1 p hp2]; exact hL.2 p hp2) (fun i hi ih => by
    replace ih : ∀ (σ1 : Mem), ((∀ x, σ1.1 (l + 1) x = if x < 4 then σ.1 (o + 1) x else σ.1 (l + 1) x) ∧ (∀ x, x < (i + 1) → σ1.1 (l + 2) x = σ.1 (o + 2) x) ∧ frI (l + 1) (l + 2) σ σ1) → End (ev sh (d + 1) 76 27 [some (mR (l)), some (mR (o)), some (mI (((i + 1) : Nat) : Int))] [] σ1) (fun r σ' => r = none ∧ HL σ' l n P ∧ frI (l + 1) (l + 2) σ σ' ∧ ∀ x, σ'.1 (l + 1) x = if x < 4 then σ.1 (o + 1) x else σ.1 (l + 1) x) := ih
    intro σ1  hp
    replace hp : (∀ x, σ1.1 (l + 1) x = if x < 4 then σ.1 (o + 1) x else σ.1 (l + 1) x) ∧ (∀ x, x < i → σ1.1 (l + 2) x = σ.1 (o + 2) x) ∧ frI (l + 1) (l + 2) σ σ1 := hp
    show End (ev sh (d + 1) 76 27 [some (mR (l)), some (mR (o)), some (mI ((i : Nat) : Int))] [] σ1) (fun r σ' => r = none ∧ HL σ' l n P ∧ frI (l + 1) (l + 2) σ σ' ∧ ∀ x, σ'.1 (l + 1) x = if x < 4 then σ.1 (o + 1) x else σ.1 (l + 1) x)
    have e2 := hp.2.2.1 (o + 2) (by omega)
    rw [e76_27]
    simp (disch := first | assumption | omega | (simp (disch := omega) only [wN, w0, w1]; omega)) only [e76_0, e76_1, e76_3, e76_4, e76_7, e76_8, e76_11, e76_12, e76_13, e76_16, e76_17, e76_18, e76_19, e76_22, e76_25, e76_26, e76_28, e76_29, e76_32, e76_33, e76_36, e76_37, e76_38, e76_41, e76_42, e76_43, e76_44, e76_47, e76_50, kl_I, kl_R, kl_N, kl_L, oSm, oNn, Option.bind_some, wN, if_pos, if_neg, nS, tN, t0, w0, w1, w2, w3, w4, w5, wm1, upA_ne, upA_same, if_true, if_false, Bool.false_eq_true, r1, t1', l2, l22]
    refine ih _ ⟨fun x => ?_, fil1 hp.2.1 (by rw [e2]), hp.2.2.tr (frI.up (by omega))⟩
    show upA _ _ _ _ _ = _
    rw [upA_ne (by omega)]; exact hp.1 x) 0 (Nat.zero_le _)
  have L1 := for_P (4) (fun i => ∀ (σ1 : Mem), ((∀ x, σ1.1 (l + 1) x = if x < i then σ.1 (o + 1) x else σ.1 (l + 1) x) ∧ frI (l + 1) (l + 2) σ σ1) → End (ev sh (d + 1) 76 2 [some (mR (l)), some (mR (o)), some (mI ((i : Nat) : Int))] [] σ1) (fun r σ' => r = none ∧ HL σ' l n P ∧ frI (l + 1) (l + 2) σ σ' ∧ ∀ x, σ'.1 (l + 1) x = if x < 4 then σ.1 (o + 1) x else σ.1 (l + 1) x)) (by
    intro σ1  hp
    replace hp : (∀ x, σ1.1 (l + 1) x = if x < (4) then σ.1 (o + 1) x else σ.1 (l + 1) x) ∧ frI (l + 1) (l + 2) σ σ1 := hp
    show End (ev sh (d + 1) 76 2 [some (mR (l)), some (mR (o)), some (mI (((4) : Nat) : Int))] [] σ1) (fun r σ' => r = none ∧ HL σ' l n P ∧ frI (l + 1) (l + 2) σ σ' ∧ ∀ x, σ'.1 (l + 1) x = if x < 4 then σ.1 (o + 1) x else σ.1 (l + 1) x)
    rw [e76_2]
    simp (disch := first | assumption | omega | (simp (disch := omega) only [wN, w0, w1]; omega)) only [e76_0, e76_1, e76_3, e76_4, e76_7, e76_8, e76_11, e76_12, e76_13, e76_16, e76_17, e76_18, e76_19, e76_22, e76_25, e76_26, e76_28, e76_29, e76_32, e76_33, e76_36, e76_37, e76_38, e76_41, e76_42, e76_43, e76_44, e76_47, e76_50, kl_I, kl_R, kl_N, kl_L, oSm, oNn, Option.bind_some, wN, if_pos, if_neg, nS, tN, t0, w0, w1, w2, w3, w4, w5, wm1, upA_ne, upA_same, if_true, if_false, Bool.false_eq_true]
    exact L2 σ1 ⟨hp.1, fun x hx => by omega, hp.2⟩) (fun i hi ih => by
    replace ih : ∀ (σ1 : Mem), ((∀ x, σ1.1 (l + 1) x = if x < (i + 1) then σ.1 (o + 1) x else σ.1 (l + 1) x) ∧ frI (l + 1) (l + 2) σ σ1) → End (ev sh (d + 1) 76 2 [some (mR (l)), some (mR (o)), some (mI (((i + 1) : Nat) : Int))] [] σ1) (fun r σ' => r = none ∧ HL σ' l n P ∧ frI (l + 1) (l + 2) σ σ' ∧ ∀ x, σ'.1 (l + 1) x = if x < 4 then σ.1 (o + 1) x else σ.1 (l + 1) x) := ih
    intro σ1  hp
    replace hp : (∀ x, σ1.1 (l + 1) x = if x < i then σ.1 (o + 1) x else σ.1 (l + 1) x) ∧ frI (l + 1) (l + 2) σ σ1 := hp
    show End (ev sh (d + 1) 76 2 [some (mR (l)), some (mR (o)), some (mI ((i : Nat) : Int))] [] σ1) (fun r σ' => r = none ∧ HL σ' l n P ∧ frI (l + 1) (l + 2) σ σ' ∧ ∀ x, σ'.1 (l + 1) x = if x < 4 then σ.1 (o + 1) x else σ.1 (l + 1) x)
    have e2 := hp.2.1 (o + 1) (by omega)
    rw [e76_2]
    simp (disch := first | assumption | omega | (simp (disch := omega) only [wN, w0, w1]; omega)) only [e76_0, e76_1, e76_3, e76_4, e76_7, e76_8, e76_11, e76_12, e76_13, e76_16, e76_17, e76_18, e76_19, e76_22, e76_25, e76_26, e76_28, e76_29, e76_32, e76_33, e76_36, e76_37, e76_38, e76_41, e76_42, e76_43, e76_44, e76_47, e76_50, kl_I, kl_R, kl_N, kl_L, oSm, oNn, Option.bind_some, wN, if_pos, if_neg, nS, tN, t0, w0, w1, w2, w3, w4, w5, wm1, upA_ne, upA_same, if_true, if_false, Bool.false_eq_true, r0, t0', l1, l21]
    refine ih _ ⟨fun x => ?_, hp.2.tr (frI.up (by omega))⟩
    show upA _ _ _ _ _ = _
    rw [upA_same]
    by_cases e : x = i
    · subst e; rw [up1_same, if_pos (by omega), e2]
    · rw [up1_ne e, hp.1 x]
      by_cases e3 : x < i
      · rw [if_pos e3, if_pos (by omega)]
      · rw [if_neg e3, if_neg (by omega)]) 0 (Nat.zero_le _)
  simp (disch := first | assumption | omega | (simp (disch := omega) only [wN, w0, w1]; omega)) only [e76_0, e76_1, e76_3, e76_4, e76_7, e76_8, e76_11, e76_12, e76_13, e76_16, e76_17, e76_18, e76_19, e76_22, e76_25, e76_26, e76_28, e76_29, e76_32, e76_33, e76_36, e76_37, e76_38, e76_41, e76_42, e76_43, e76_44, e76_47, e76_50, kl_I, kl_R, kl_N, kl_L, oSm, oNn, Option.bind_some, wN, if_pos, if_neg, nS, tN, t0, w0, w1, w2, w3, w4, w5, wm1, upA_ne, upA_same, if_true, if_false, Bool.false_eq_true, q76]
  exact L1 σ ⟨fun x => by simp, frI.rf⟩
theorem Y75x (hs : lyS sh l) (hP : okP n m P) (hn : n ≤ 4) (hm : m ≤ 5) : End (run sh (d + 2) 75 [mR l, mI (dgC P n : Int), mI (n : Int)] σ) (fun r σ' => r = none ∧ HL σ' l n P ∧ frI (l + 1) (l + 2) σ σ' ∧ ∀ x, n ≤ x → σ'.1 (l + 1) x = σ.1 (l + 1) x) := by
  obtain ⟨r, σ', e1, e2, e3, e4⟩ := Y75 (d := d) (σ := σ) hs hP hn hm
  refine ⟨r, σ', e1, e2, e3, e4, ?_⟩
  obtain ⟨ho, r0, r1, k1, k2, l1, l2, hw⟩ := id hs
  have hlt : ∀ i, i ≤ n → dgC P i < 10000 := fun i hi => by
    have h1 := dgC_lt hP hm i hi
    have h2 : 10 ^ i ≤ 10 ^ 4 := Nat.pow_le_pow_right (by omega) (by omega)
    omega
  have L := for_P (n) (fun i => ∀ (σ1 : Mem) (v5 : Option MV), ((∀ x, n ≤ x → σ1.1 (l + 1) x = σ.1 (l + 1) x)) → End (ev sh (d + 2) 75 19 [some (mR (l)), some (mI ((dgC P n : Nat) : Int)), some (mI ((n : Nat) : Int)), some (mI ((dgC P (n - i) : Nat) : Int)), some (mI ((n : Int) - 1 - (i : Int))), v5] [] σ1) (fun r σ' => ∀ x, n ≤ x → σ'.1 (l + 1) x = σ.1 (l + 1) x)) (by
    intro σ1 v5 hp
    replace hp : (∀ x, n ≤ x → σ1.1 (l + 1) x = σ.1 (l + 1) x) := hp
    show End (ev sh (d + 2) 75 19 [some (mR (l)), some (mI ((dgC P n : Nat) : Int)), some (mI ((n : Nat) : Int)), some (mI ((dgC P (n - (n)) : Nat) : Int)), some (mI ((n : Int) - 1 - ((n) : Int))), v5] [] σ1) (fun r σ' => ∀ x, n ≤ x → σ'.1 (l + 1) x = σ.1 (l + 1) x)
    rw [e75_19, show (n : Int) - 1 - (n : Int) = -1 by omega]
    simp (disch := first | assumption | omega | (simp (disch := omega) only [wN, w0, w1]; omega)) only [e75_0, e75_1, e75_4, e75_5, e75_8, e75_9, e75_10, e75_11, e75_12, e75_15, e75_16, e75_17, e75_21, e75_24, e75_25, e75_27, e75_28, e75_30, e75_31, e75_33, e75_35, e75_38, e75_39, e75_41, e75_42, e75_43, e75_46, e75_49, kl_I, kl_R, kl_N, kl_L, oSm, oNn, Option.bind_some, wN, if_pos, if_neg, nS, tN, t0, w0, w1, w2, w3, w4, w5, wm1, upA_ne, upA_same, if_true, if_false, Bool.false_eq_true]
    exact End.of rfl hp) (fun i hi ih => by
    replace ih : ∀ (σ1 : Mem) (v5 : Option MV), ((∀ x, n ≤ x → σ1.1 (l + 1) x = σ.1 (l + 1) x)) → End (ev sh (d + 2) 75 19 [some (mR (l)), some (mI ((dgC P n : Nat) : Int)), some (mI ((n : Nat) : Int)), some (mI ((dgC P (n - (i + 1)) : Nat) : Int)), some (mI ((n : Int) - 1 - ((i + 1) : Int))), v5] [] σ1) (fun r σ' => ∀ x, n ≤ x → σ'.1 (l + 1) x = σ.1 (l + 1) x) := ih
    intro σ1 v5 hp
    replace hp : (∀ x, n ≤ x → σ1.1 (l + 1) x = σ.1 (l + 1) x) := hp
    show End (ev sh (d + 2) 75 19 [some (mR (l)), some (mI ((dgC P n : Nat) : Int)), some (mI ((n : Nat) : Int)), some (mI ((dgC P (n - i) : Nat) : Int)), some (mI ((n : Int) - 1 - (i : Int))), v5] [] σ1) (fun r σ' => ∀ x, n ≤ x → σ'.1 (l + 1) x = σ.1 (l + 1) x)
    obtain ⟨t, ht⟩ : ∃ t : Nat, n = t + 1 + i := ⟨n - 1 - i, by omega⟩
    have e1 : (n : Int) - 1 - (i : Int) = (t : Int) := by omega
    have e2 : (n : Int) - 1 - ((i : Int) + 1) = (t : Int) + (-1) := by omega
    have e3 : n - i = t + 1 := by omega
    have e4 : n - (i + 1) = t := by omega
    rw [e2, e4] at ih
    rw [e1, e3, e75_19]
    have h1 := hlt (t + 1) (by omega)
    have hPt := hP.1 t (by omega)
    have e5 : dgC P (t + 1) % 10 = P t := by rw [dgC]; omega
    have e6 : dgC P (t + 1) / 10 = dgC P t := by rw [dgC]; omega
    have y10 : ¬ wi 10 = 0 := by decide
    have hY := Y80 (d := d) (σ := σ1) (u := (t : Int)) (p := P t) hs (Or.inl ⟨by rw [wN (by omega)]; omega, by rw [wN (by omega)]; omega⟩) (by omega)
    rw [wN (show t < 2147483648 by omega), if_pos (show (0 : Int) ≤ (t : Int) by omega), tN] at hY
    simp (disch := first | assumption | omega | (simp (disch := omega) only [wN, w0, w1]; omega)) only [e75_0, e75_1, e75_4, e75_5, e75_8, e75_9, e75_10, e75_11, e75_12, e75_15, e75_16, e75_17, e75_21, e75_24, e75_25, e75_27, e75_28, e75_30, e75_31, e75_33, e75_35, e75_38, e75_39, e75_41, e75_42, e75_43, e75_46, e75_49, kl_I, kl_R, kl_N, kl_L, oSm, oNn, Option.bind_some, wN, if_pos, if_neg, nS, tN, t0, w0, w1, w2, w3, w4, w5, wm1, upA_ne, upA_same, if_true, if_false, Bool.false_eq_true, xdiv_10, xrem_10, e5, e6, hY]
    refine ih _ _ (fun x hx => ?_)
    show upA (upA _ _ _) _ _ _ _ = _
    rw [upA_same, up1_ne (by omega)]
    exact hp x hx) 0 (Nat.zero_le _)
  obtain ⟨r9, σ1, f1, rfl, f3, f4⟩ := F287 (d := d) (v := -1) (σ := σ) k2 (show l + 2 < sh.1 by omega) l2 (by omega)
  have w4 : mmn (n : Int) 4 = (n : Int) := by
    have := mmn_nn (a := n) (b := 4) (by omega) (by omega)
    rw [show ((4 : Nat) : Int) = 4 from rfl] at this
    rw [this, Nat.min_eq_left hn]
  have L0 := L σ1 none (fun x hx => by rw [f4.1 _ (by omega)])
  rw [show (n : Int) - 1 - ((0 : Nat) : Int) = (n : Int) - 1 by omega, Nat.sub_zero] at L0
  have e1' := e1
  simp (disch := first | assumption | omega | (simp (disch := omega) only [wN, w0, w1]; omega)) only [e75_0, e75_1, e75_4, e75_5, e75_8, e75_9, e75_10, e75_11, e75_12, e75_15, e75_16, e75_17, e75_21, e75_24, e75_25, e75_27, e75_28, e75_30, e75_31, e75_33, e75_35, e75_38, e75_39, e75_41, e75_42, e75_43, e75_46, e75_49, kl_I, kl_R, kl_N, kl_L, oSm, oNn, Option.bind_some, wN, if_pos, if_neg, nS, tN, t0, w0, w1, w2, w3, w4, w5, wm1, upA_ne, upA_same, if_true, if_false, Bool.false_eq_true, q75, r1, f1, w4] at e1'
  obtain ⟨r8, σ8, g1, g2⟩ := L0
  rw [show ev sh (d + 2) 75 19 _ [] σ1 = _ from e1'] at g1
  cases g1
  exact g2
end LYX

