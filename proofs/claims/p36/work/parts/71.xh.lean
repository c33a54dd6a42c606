/-! ===== same: all orders; same ===== -/
section XH
variable {sh : Shp} {d : Nat} {σ : Mem} {a : AX} {S : SB} {z w v : Int}
theorem HCC.fr {σ σ' : Mem} {n f x y : Nat} {ck c : List Gt} (h : HCC σ n ck c f) (hf : frB x y σ σ') (ho : y < 65) : HCC σ' n ck c f := by
  obtain ⟨⟨p1, p2, p3⟩, q1, q2, q3⟩ := h
  exact ⟨⟨p1.fr hf (by omega), by rw [(hf 67 (by omega)).1]; exact p2, by rw [(hf 67 (by omega)).1]; exact p3⟩, q1.fr hf (by omega), by rw [(hf 65 (by omega)).1]; exact q2, by rw [(hf 65 (by omega)).1]; exact q3⟩
theorem HR.fr {σ σ' : Mem} {r x y : Nat} {L : List Nat} (h : HR σ r L) (hf : frB x y σ σ') (ho : r + 1 < x ∨ y < r) : HR σ' r L := ⟨by rw [(hf r (by omega)).1]; exact h.1, fun j hj => by rw [(hf (r + 1) (by omega)).1]; exact h.2 j hj⟩
theorem rwL_24 : ∀ n, n < 5 → (rwL n n).length ≤ 24 := by decide +kernel
theorem X138 (hX : XS sh) (h : InvX sh σ a) (hK : a.2.1 = some S) (hn : S.1 = a.1.1) : End (run sh (d + 5) 138 [mR 0] σ) (fun r σ' => r = some (mI (odS a.1.1 S.2.1 a.1.2.1 (2 ^ a.1.1) : Int)) ∧ InvX sh σ' a) := by
  have hck : S.2.1.length ≤ 30 := (h.2.2.1 S hK).2.2.2.1
  have hc30 : a.1.2.1.length ≤ 30 := h.1.2.2.2.1
  have hn4 : a.1.1 ≤ 4 := h.1.2.2.1
  have hn1 : 1 ≤ a.1.1 := h.1.2.1
  obtain ⟨ho, s0, -, -, -, -, -, s7, s8, s9, s10, -, -, -, hnow, -, -, -, -, -, -, htri, hrow, hcol, hkc, -, -, -, -, hsh, -⟩ := id hX
  have hso := hnow.1
  have htrio := htri.1
  have hrowo := hrow.1
  have hcolo := hcol.1
  have hkco := hkc.1
  have h16 : 2 ^ a.1.1 ≤ 2 ^ 4 := Nat.pow_le_pow_right (by omega) hn4
  have hN0 : ∀ σ1, InvX sh σ1 a → σ1.1 1 0 = (a.1.1 : Int) := fun σ1 h1 => h1.1.1.1
  have x1 := xshl_1 (k := a.1.1) (by omega)
  have wp : wi ((2 ^ a.1.1 : Nat) : Int) = ((2 ^ a.1.1 : Nat) : Int) := wN (by omega)
  generalize hnn : a.1.1 = n at *
  generalize hcc : a.1.2.1 = c at *
  generalize hkk : S.2.1 = ck at *
  have r24 := rwL_24 n (by omega)
  have p24 : 2 ^ (rwL n n).length ≤ 2 ^ 24 := Nat.pow_le_pow_right (by omega) r24
  have p24' : 0 < 2 ^ (rwL n n).length := Nat.two_pow_pos _
  have x24 := xshl_1 (k := (rwL n n).length) (by omega)
  have e24 : ((2 ^ (rwL n n).length : Nat) : Int) - 1 = ((2 ^ (rwL n n).length - 1 : Nat) : Int) := by omega
  have L := for_P (2 ^ n) (fun i => ∀ (σ1 : Mem) (v3 : Option MV), (InvX sh σ1 a ∧ HR σ1 63 (rwL n n)) → End (ev sh (d + 5) 138 35 [some (mR (0)), some (mI ((odS n ck c i : Nat) : Int)), some (mI ((i : Nat) : Int)), v3] [] σ1) (fun r σ' => r = some (mI (odS n ck c (2 ^ n) : Int)) ∧ InvX sh σ' a)) (by
    intro σ1 v3 hp
    replace hp : InvX sh σ1 a ∧ HR σ1 63 (rwL n n) := hp
    show End (ev sh (d + 5) 138 35 [some (mR (0)), some (mI ((odS n ck c (2 ^ n) : Nat) : Int)), some (mI (((2 ^ n) : Nat) : Int)), v3] [] σ1) (fun r σ' => r = some (mI (odS n ck c (2 ^ n) : Int)) ∧ InvX sh σ' a)
    have hN1 := hN0 _ hp.1
    rw [e138_35]
    simp (disch := first | assumption | omega | (simp (disch := omega) only [wN, w0, w1]; omega)) only [e138_0, e138_1, e138_4, e138_5, e138_8, e138_11, e138_12, e138_15, e138_18, e138_21, e138_22, e138_23, e138_26, e138_29, e138_30, e138_31, e138_32, e138_33, e138_34, e138_36, e138_37, e138_38, e138_41, e138_44, e138_45, e138_48, e138_49, e138_52, e138_53, e138_54, e138_57, e138_58, e138_60, e138_61, e138_64, e138_67, e138_70, e138_71, e138_74, e138_75, e138_78, e138_79, e138_82, e138_83, e138_86, e138_89, e138_92, e138_93, e138_96, e138_97, e138_100, e138_101, e138_104, e138_107, e138_110, e138_111, e138_112, e138_113, e138_114, e138_115, e138_116, e138_117, e138_118, e138_121, e138_124, e138_127, e138_130, e138_131, kl_I, kl_R, kl_N, kl_L, oSm, oNn, Option.bind_some, wN, if_pos, if_neg, nS, tN, t0, w0, w1, w2, w3, w4, w5, wm1, upA_ne, upA_same, if_true, if_false, Bool.false_eq_true, s0, hN1, x1, wp]
    exact End.of rfl ⟨rfl, hp.1⟩) (fun i hi ih => by
    replace ih : ∀ (σ1 : Mem) (v3 : Option MV), (InvX sh σ1 a ∧ HR σ1 63 (rwL n n)) → End (ev sh (d + 5) 138 35 [some (mR (0)), some (mI ((odS n ck c (i + 1) : Nat) : Int)), some (mI (((i + 1) : Nat) : Int)), v3] [] σ1) (fun r σ' => r = some (mI (odS n ck c (2 ^ n) : Int)) ∧ InvX sh σ' a) := ih
    intro σ1 v3 hp
    replace hp : InvX sh σ1 a ∧ HR σ1 63 (rwL n n) := hp
    show End (ev sh (d + 5) 138 35 [some (mR (0)), some (mI ((odS n ck c i : Nat) : Int)), some (mI ((i : Nat) : Int)), v3] [] σ1) (fun r σ' => r = some (mI (odS n ck c (2 ^ n) : Int)) ∧ InvX sh σ' a)
    have hN1 := hN0 _ hp.1
    have b8 : odS n ck c i < 2 ^ (rwL n n).length := bts_lt _ _
    have wt : wi (odS n ck c i : Int) = (odS n ck c i : Int) := wN (by omega)
    rw [e138_35]
    by_cases hz : odS n ck c i = 0
    · have hz2 : odS n ck c (2 ^ n) = odS n ck c i := by
        rw [hz]
        exact bts_0 hz (fun t _ ht => fa_le (by omega) ht)
      have hzI : (odS n ck c i : Int) = 0 := by omega
      simp (disch := first | assumption | omega | (simp (disch := omega) only [wN, w0, w1]; omega)) only [e138_0, e138_1, e138_4, e138_5, e138_8, e138_11, e138_12, e138_15, e138_18, e138_21, e138_22, e138_23, e138_26, e138_29, e138_30, e138_31, e138_32, e138_33, e138_34, e138_36, e138_37, e138_38, e138_41, e138_44, e138_45, e138_48, e138_49, e138_52, e138_53, e138_54, e138_57, e138_58, e138_60, e138_61, e138_64, e138_67, e138_70, e138_71, e138_74, e138_75, e138_78, e138_79, e138_82, e138_83, e138_86, e138_89, e138_92, e138_93, e138_96, e138_97, e138_100, e138_101, e138_104, e138_107, e138_110, e138_111, e138_112, e138_113, e138_114, e138_115, e138_116, e138_117, e138_118, e138_121, e138_124, e138_127, e138_130, e138_131, kl_I, kl_R, kl_N, kl_L, oSm, oNn, Option.bind_some, wN, if_pos, if_neg, nS, tN, t0, w0, w1, w2, w3, w4, w5, wm1, upA_ne, upA_same, if_true, if_false, Bool.false_eq_true, s0, hN1, x1, wp, wt]
      exact End.of rfl ⟨by rw [hz2], hp.1⟩
    · have hzI : ¬ (odS n ck c i : Int) = 0 := by omega
      obtain ⟨r, σ2, a1, rfl, a3, a4, a5⟩ := X136 (d := d) (f := i) hX hp.1 hK (by rw [hnn]; exact hn) (by rw [hnn]; exact hi)
      rw [hnn, hcc, hkk] at a4
      have hR2 : HR σ2 63 (rwL n n) := hp.2.fr a5 (by omega)
      have hle1 := amV_le ck i
      have hle2 := amV_le c i
      have I := for_P ((rwL n n).length) (fun t => ∀ (σ3 : Mem), (InvX sh σ3 a ∧ HR σ3 63 (rwL n n) ∧ HCC σ3 n ck c i) → End (ev sh (d + 5) 138 59 [some (mR (0)), some (mI ((bts (fun y => fa (fun f => odB n ck c f (pOf n ((rwL n n).getD y 0))) i 0 && (decide (t ≤ y) || odB n ck c i (pOf n ((rwL n n).getD y 0)))) (rwL n n).length : Nat) : Int)), some (mI ((i : Nat) : Int)), some (mI ((t : Nat) : Int))] [] σ3) (fun r σ' => r = some (mI (odS n ck c (2 ^ n) : Int)) ∧ InvX sh σ' a)) (by
        intro σ3  hp
        replace hp : InvX sh σ3 a ∧ HR σ3 63 (rwL n n) ∧ HCC σ3 n ck c i := hp
        show End (ev sh (d + 5) 138 59 [some (mR (0)), some (mI ((bts (fun y => fa (fun f => odB n ck c f (pOf n ((rwL n n).getD y 0))) i 0 && (decide (((rwL n n).length) ≤ y) || odB n ck c i (pOf n ((rwL n n).getD y 0)))) (rwL n n).length : Nat) : Int)), some (mI ((i : Nat) : Int)), some (mI ((((rwL n n).length) : Nat) : Int))] [] σ3) (fun r σ' => r = some (mI (odS n ck c (2 ^ n) : Int)) ∧ InvX sh σ' a)
        have e : bts (fun y => fa (fun f => odB n ck c f (pOf n ((rwL n n).getD y 0))) i 0 && (decide ((rwL n n).length ≤ y) || odB n ck c i (pOf n ((rwL n n).getD y 0)))) (rwL n n).length = odS n ck c (i + 1) := bts_cg _ fun y hy => by
          rw [fa_1, decide_eq_false (by omega)]; rfl
        have hl3 := hp.2.1.1
        rw [e138_59, e]
        simp (disch := first | assumption | omega | (simp (disch := omega) only [wN, w0, w1]; omega)) only [e138_0, e138_1, e138_4, e138_5, e138_8, e138_11, e138_12, e138_15, e138_18, e138_21, e138_22, e138_23, e138_26, e138_29, e138_30, e138_31, e138_32, e138_33, e138_34, e138_36, e138_37, e138_38, e138_41, e138_44, e138_45, e138_48, e138_49, e138_52, e138_53, e138_54, e138_57, e138_58, e138_60, e138_61, e138_64, e138_67, e138_70, e138_71, e138_74, e138_75, e138_78, e138_79, e138_82, e138_83, e138_86, e138_89, e138_92, e138_93, e138_96, e138_97, e138_100, e138_101, e138_104, e138_107, e138_110, e138_111, e138_112, e138_113, e138_114, e138_115, e138_116, e138_117, e138_118, e138_121, e138_124, e138_127, e138_130, e138_131, kl_I, kl_R, kl_N, kl_L, oSm, oNn, Option.bind_some, wN, if_pos, if_neg, nS, tN, t0, w0, w1, w2, w3, w4, w5, wm1, upA_ne, upA_same, if_true, if_false, Bool.false_eq_true, s8, hl3]
        exact ih _ _ ⟨hp.1, hp.2.1⟩) (fun t hi ih => by
        replace ih : ∀ (σ3 : Mem), (InvX sh σ3 a ∧ HR σ3 63 (rwL n n) ∧ HCC σ3 n ck c i) → End (ev sh (d + 5) 138 59 [some (mR (0)), some (mI ((bts (fun y => fa (fun f => odB n ck c f (pOf n ((rwL n n).getD y 0))) i 0 && (decide ((t + 1) ≤ y) || odB n ck c i (pOf n ((rwL n n).getD y 0)))) (rwL n n).length : Nat) : Int)), some (mI ((i : Nat) : Int)), some (mI (((t + 1) : Nat) : Int))] [] σ3) (fun r σ' => r = some (mI (odS n ck c (2 ^ n) : Int)) ∧ InvX sh σ' a) := ih
        intro σ3  hp
        replace hp : InvX sh σ3 a ∧ HR σ3 63 (rwL n n) ∧ HCC σ3 n ck c i := hp
        show End (ev sh (d + 5) 138 59 [some (mR (0)), some (mI ((bts (fun y => fa (fun f => odB n ck c f (pOf n ((rwL n n).getD y 0))) i 0 && (decide (t ≤ y) || odB n ck c i (pOf n ((rwL n n).getD y 0)))) (rwL n n).length : Nat) : Int)), some (mI ((i : Nat) : Int)), some (mI ((t : Nat) : Int))] [] σ3) (fun r σ' => r = some (mI (odS n ck c (2 ^ n) : Int)) ∧ InvX sh σ' a)
        have hl3 := hp.2.1.1
        have hN3 := hN0 _ hp.1
        obtain ⟨o1, o2⟩ := rwL_ok (n := n) (m := n) hn4 (by omega) hi
        have e100 := R100 (d := d + 3) (j := t) hrow hp.2.1 (by omega) (by omega) hi
        obtain ⟨rb, σ4, b1, rfl, b3, b4⟩ := Y75 (d := d + 2) (σ := σ3) htri o2 hn4 (by omega)
        rw [o1] at b1
        have hI4 := hp.1.B (b4.B.w (x' := 44) (y' := 64) (by omega) (by omega)) (by omega) (by omega)
        have hR4 := hp.2.1.fr b4.B (by omega)
        have hC4 := hp.2.2.fr b4.B (by omega)
        obtain ⟨⟨p1, p2, p3⟩, q1', q2', q3'⟩ := id hC4
        have e24' := C24 (d := d + 2) hcol q1' q2' hn4 (amV_bd hc30) hkc p1 p2 (amV_bd hck) q3' p3 (by omega) (by omega) htri b3 o2
        have ht2 : odB n ck c i (pOf n ((rwL n n).getD t 0)) = true ↔ ((amV c i).2 = (amV ck i).2 ∧ fa (fun y => decide ((amV c i).1 (exT (pOf n ((rwL n n).getD t 0)) y 4) = (amV ck i).1 y)) (2 ^ n - 0) 0 = true) := by
          unfold odB
          rw [Bool.and_eq_true, decide_eq_true_eq]
        have b8 := bts_lt (fun y => fa (fun f => odB n ck c f (pOf n ((rwL n n).getD y 0))) i 0 && (decide (t ≤ y) || odB n ck c i (pOf n ((rwL n n).getD y 0)))) (rwL n n).length
        have x2 := xshl_1 (k := t) (by omega)
        have x3 := clr_nn (T := bts (fun y => fa (fun f => odB n ck c f (pOf n ((rwL n n).getD y 0))) i 0 && (decide (t ≤ y) || odB n ck c i (pOf n ((rwL n n).getD y 0)))) (rwL n n).length) (t := t) (by omega) (by omega)
        rw [e138_59]
        by_cases hb : odB n ck c i (pOf n ((rwL n n).getD t 0)) = true
        · rw [if_pos (ht2.mp hb)] at e24'
          have e : bts (fun y => fa (fun f => odB n ck c f (pOf n ((rwL n n).getD y 0))) i 0 && (decide (t ≤ y) || odB n ck c i (pOf n ((rwL n n).getD y 0)))) (rwL n n).length = bts (fun y => fa (fun f => odB n ck c f (pOf n ((rwL n n).getD y 0))) i 0 && (decide (t + 1 ≤ y) || odB n ck c i (pOf n ((rwL n n).getD y 0)))) (rwL n n).length := bts_cg _ fun y hy => by
            by_cases e : y = t
            · subst e; simp only [hb, Bool.or_true]
            · rw [show decide (t ≤ y) = decide (t + 1 ≤ y) by rw [decide_eq_decide]; omega]
          rw [e]
          simp (disch := first | assumption | omega | (simp (disch := omega) only [wN, w0, w1]; omega)) only [e138_0, e138_1, e138_4, e138_5, e138_8, e138_11, e138_12, e138_15, e138_18, e138_21, e138_22, e138_23, e138_26, e138_29, e138_30, e138_31, e138_32, e138_33, e138_34, e138_36, e138_37, e138_38, e138_41, e138_44, e138_45, e138_48, e138_49, e138_52, e138_53, e138_54, e138_57, e138_58, e138_60, e138_61, e138_64, e138_67, e138_70, e138_71, e138_74, e138_75, e138_78, e138_79, e138_82, e138_83, e138_86, e138_89, e138_92, e138_93, e138_96, e138_97, e138_100, e138_101, e138_104, e138_107, e138_110, e138_111, e138_112, e138_113, e138_114, e138_115, e138_116, e138_117, e138_118, e138_121, e138_124, e138_127, e138_130, e138_131, kl_I, kl_R, kl_N, kl_L, oSm, oNn, Option.bind_some, wN, if_pos, if_neg, nS, tN, t0, w0, w1, w2, w3, w4, w5, wm1, upA_ne, upA_same, if_true, if_false, Bool.false_eq_true, s0, s7, s8, s9, s10, hl3, hN3, e100, b1, e24']
          exact ih _ ⟨hI4, hR4, hC4⟩
        · rw [if_neg (fun q => hb (ht2.mpr q))] at e24'
          have e := bts_clr (p := fun y => fa (fun f => odB n ck c f (pOf n ((rwL n n).getD y 0))) i 0 && (decide (t ≤ y) || odB n ck c i (pOf n ((rwL n n).getD y 0)))) (q := fun y => fa (fun f => odB n ck c f (pOf n ((rwL n n).getD y 0))) i 0 && (decide (t + 1 ≤ y) || odB n ck c i (pOf n ((rwL n n).getD y 0)))) (N := (rwL n n).length) (t := t) (fun y hy => by
            by_cases e : t = y
            · subst e
              have hb2 : odB n ck c i (pOf n ((rwL n n).getD t 0)) = false := by
                cases hq : odB n ck c i (pOf n ((rwL n n).getD t 0)) with
                | false => rfl
                | true => exact absurd hq hb
              simp only [hb2, Bool.or_false]
              rw [decide_eq_false (show ¬ t + 1 ≤ t by omega), decide_eq_false (show ¬ t ≠ t from fun q => q rfl), Bool.and_false, Bool.and_false]
            · rw [show decide (t ≤ y) = decide (t + 1 ≤ y) by rw [decide_eq_decide]; omega]
              simp [e])
          rw [e] at x3
          simp (disch := first | assumption | omega | (simp (disch := omega) only [wN, w0, w1]; omega)) only [e138_0, e138_1, e138_4, e138_5, e138_8, e138_11, e138_12, e138_15, e138_18, e138_21, e138_22, e138_23, e138_26, e138_29, e138_30, e138_31, e138_32, e138_33, e138_34, e138_36, e138_37, e138_38, e138_41, e138_44, e138_45, e138_48, e138_49, e138_52, e138_53, e138_54, e138_57, e138_58, e138_60, e138_61, e138_64, e138_67, e138_70, e138_71, e138_74, e138_75, e138_78, e138_79, e138_82, e138_83, e138_86, e138_89, e138_92, e138_93, e138_96, e138_97, e138_100, e138_101, e138_104, e138_107, e138_110, e138_111, e138_112, e138_113, e138_114, e138_115, e138_116, e138_117, e138_118, e138_121, e138_124, e138_127, e138_130, e138_131, kl_I, kl_R, kl_N, kl_L, oSm, oNn, Option.bind_some, wN, if_pos, if_neg, nS, tN, t0, w0, w1, w2, w3, w4, w5, wm1, upA_ne, upA_same, if_true, if_false, Bool.false_eq_true, s0, s7, s8, s9, s10, hl3, hN3, e100, b1, e24', x2, x3]
          exact ih _ ⟨hI4, hR4, hC4⟩) 0 (Nat.zero_le _)
      have e0 : bts (fun y => fa (fun f => odB n ck c f (pOf n ((rwL n n).getD y 0))) i 0 && (decide (0 ≤ y) || odB n ck c i (pOf n ((rwL n n).getD y 0)))) (rwL n n).length = odS n ck c i := bts_cg _ fun y hy => by simp
      have I0 := I σ2 ⟨a3, hR2, a4⟩
      rw [e0] at I0
      simp (disch := first | assumption | omega | (simp (disch := omega) only [wN, w0, w1]; omega)) only [e138_0, e138_1, e138_4, e138_5, e138_8, e138_11, e138_12, e138_15, e138_18, e138_21, e138_22, e138_23, e138_26, e138_29, e138_30, e138_31, e138_32, e138_33, e138_34, e138_36, e138_37, e138_38, e138_41, e138_44, e138_45, e138_48, e138_49, e138_52, e138_53, e138_54, e138_57, e138_58, e138_60, e138_61, e138_64, e138_67, e138_70, e138_71, e138_74, e138_75, e138_78, e138_79, e138_82, e138_83, e138_86, e138_89, e138_92, e138_93, e138_96, e138_97, e138_100, e138_101, e138_104, e138_107, e138_110, e138_111, e138_112, e138_113, e138_114, e138_115, e138_116, e138_117, e138_118, e138_121, e138_124, e138_127, e138_130, e138_131, kl_I, kl_R, kl_N, kl_L, oSm, oNn, Option.bind_some, wN, if_pos, if_neg, nS, tN, t0, w0, w1, w2, w3, w4, w5, wm1, upA_ne, upA_same, if_true, if_false, Bool.false_eq_true, s0, hN1, x1, wp, wt, a1]
      exact I0) 0 (Nat.zero_le _)
  have e0 : odS n ck c 0 = 2 ^ (rwL n n).length - 1 := by
    apply Nat.eq_of_testBit_eq
    intro i
    rw [Nat.testBit_two_pow_sub_one]
    unfold odS
    rw [bts_bit]
    simp [fa]
  obtain ⟨r, σ1, a1, rfl, a3, a4⟩ := R98 (d := d + 2) (n := n) (m := n) (σ := σ) hrow (by omega) (by omega) hn4
  have hI1 := h.B a4.B (by omega) (by omega)
  have hl1 := a3.1
  have hN1 := hN0 _ h
  have L0 := L σ1 none ⟨hI1, a3⟩
  rw [e0] at L0
  simp (disch := first | assumption | omega | (simp (disch := omega) only [wN, w0, w1]; omega)) only [e138_0, e138_1, e138_4, e138_5, e138_8, e138_11, e138_12, e138_15, e138_18, e138_21, e138_22, e138_23, e138_26, e138_29, e138_30, e138_31, e138_32, e138_33, e138_34, e138_36, e138_37, e138_38, e138_41, e138_44, e138_45, e138_48, e138_49, e138_52, e138_53, e138_54, e138_57, e138_58, e138_60, e138_61, e138_64, e138_67, e138_70, e138_71, e138_74, e138_75, e138_78, e138_79, e138_82, e138_83, e138_86, e138_89, e138_92, e138_93, e138_96, e138_97, e138_100, e138_101, e138_104, e138_107, e138_110, e138_111, e138_112, e138_113, e138_114, e138_115, e138_116, e138_117, e138_118, e138_121, e138_124, e138_127, e138_130, e138_131, kl_I, kl_R, kl_N, kl_L, oSm, oNn, Option.bind_some, wN, if_pos, if_neg, nS, tN, t0, w0, w1, w2, w3, w4, w5, wm1, upA_ne, upA_same, if_true, if_false, Bool.false_eq_true, q138, s0, s8, hN1, a1, hl1, x24, e24]
  exact L0
theorem X135 (hX : XS sh) (h : InvX sh σ a) (hw' : i32 w) : End (run sh (d + 6) 135 [mR 0, mI w] σ) (fun r σ' => r = some (mI (aSame a w)) ∧ InvX sh σ' a) := by
  have ww := hw'.w
  obtain ⟨ho, s0, s1, -, -, -, -, s7, s8, s9, s10, -, -, -, hnow, hkep, -, -, -, -, -, htri, hrow, hcol, hkc, -, -, -, -, hsh, -⟩ := id hX
  have hso := hnow.1
  have hko := hkep.1
  have hik := h.2.1
  have hN0 : σ.1 1 0 = (a.1.1 : Int) := h.1.1.1
  have hn4 : a.1.1 ≤ 4 := h.1.2.2.1
  unfold aSame
  by_cases h1 : w < 0
  · rw [if_pos (Or.inl h1)]
    simp (disch := first | assumption | omega | (simp (disch := omega) only [wN, w0, w1]; omega)) only [e135_0, e135_1, e135_4, e135_5, e135_6, e135_9, e135_10, e135_11, e135_12, e135_15, e135_18, e135_19, e135_22, e135_25, e135_26, e135_29, e135_32, e135_35, e135_37, e135_38, e135_39, e135_40, e135_43, e135_44, e135_47, e135_50, e135_51, e135_52, e135_55, e135_56, e135_57, e135_60, e135_61, e135_62, e135_63, e135_66, e135_67, e135_70, kl_I, kl_R, kl_N, kl_L, oSm, oNn, Option.bind_some, wN, if_pos, if_neg, nS, tN, t0, w0, w1, w2, w3, w4, w5, wm1, upA_ne, upA_same, if_true, if_false, Bool.false_eq_true, q135, ww]
    exact End.of rfl ⟨rfl, h⟩
  · by_cases h2 : 2 < w
    · rw [if_pos (Or.inr h2)]
      simp (disch := first | assumption | omega | (simp (disch := omega) only [wN, w0, w1]; omega)) only [e135_0, e135_1, e135_4, e135_5, e135_6, e135_9, e135_10, e135_11, e135_12, e135_15, e135_18, e135_19, e135_22, e135_25, e135_26, e135_29, e135_32, e135_35, e135_37, e135_38, e135_39, e135_40, e135_43, e135_44, e135_47, e135_50, e135_51, e135_52, e135_55, e135_56, e135_57, e135_60, e135_61, e135_62, e135_63, e135_66, e135_67, e135_70, kl_I, kl_R, kl_N, kl_L, oSm, oNn, Option.bind_some, wN, if_pos, if_neg, nS, tN, t0, w0, w1, w2, w3, w4, w5, wm1, upA_ne, upA_same, if_true, if_false, Bool.false_eq_true, q135, ww]
      exact End.of rfl ⟨rfl, h⟩
    · rw [if_neg (by omega)]
      cases hK : a.2.1 with
      | none =>
        rw [hK] at hik
        have hik : σ.1 0 2 = 0 := hik
        simp (disch := first | assumption | omega | (simp (disch := omega) only [wN, w0, w1]; omega)) only [e135_0, e135_1, e135_4, e135_5, e135_6, e135_9, e135_10, e135_11, e135_12, e135_15, e135_18, e135_19, e135_22, e135_25, e135_26, e135_29, e135_32, e135_35, e135_37, e135_38, e135_39, e135_40, e135_43, e135_44, e135_47, e135_50, e135_51, e135_52, e135_55, e135_56, e135_57, e135_60, e135_61, e135_62, e135_63, e135_66, e135_67, e135_70, kl_I, kl_R, kl_N, kl_L, oSm, oNn, Option.bind_some, wN, if_pos, if_neg, nS, tN, t0, w0, w1, w2, w3, w4, w5, wm1, upA_ne, upA_same, if_true, if_false, Bool.false_eq_true, q135, ww, hik]
        exact End.of rfl ⟨rfl, h⟩
      | some S =>
        rw [hK] at hik
        have hik : σ.1 0 2 = 1 := hik
        have hk2 := h.2.2.1 S hK
        have hk0 : σ.1 21 0 = (S.1 : Int) := hk2.1.1
        have hkn : S.1 ≤ 4 := hk2.2.2.1
        simp only
        by_cases h3 : S.1 = a.1.1
        · rw [if_neg (fun q => q h3)]
          have hI3 : (S.1 : Int) = (a.1.1 : Int) := by rw [h3]
          by_cases h4 : w = 2
          · rw [if_pos h4]
            obtain ⟨r, σ1, a1, a2, a3⟩ := X138 (d := d) hX h hK h3
            rw [a2] at a1
            have hlt : odS a.1.1 S.2.1 a.1.2.1 (2 ^ a.1.1) < 2147483648 := by
              have r24 := rwL_24 a.1.1 (by omega)
              have p24 : 2 ^ (rwL a.1.1 a.1.1).length ≤ 2 ^ 24 := Nat.pow_le_pow_right (by omega) r24
              have : odS a.1.1 S.2.1 a.1.2.1 (2 ^ a.1.1) < 2 ^ (rwL a.1.1 a.1.1).length := bts_lt _ _
              omega
            have e139 := X139 (sh := sh) (d := d + 4) (σ := σ1) hlt
            simp (disch := first | assumption | omega | (simp (disch := omega) only [wN, w0, w1]; omega)) only [e135_0, e135_1, e135_4, e135_5, e135_6, e135_9, e135_10, e135_11, e135_12, e135_15, e135_18, e135_19, e135_22, e135_25, e135_26, e135_29, e135_32, e135_35, e135_37, e135_38, e135_39, e135_40, e135_43, e135_44, e135_47, e135_50, e135_51, e135_52, e135_55, e135_56, e135_57, e135_60, e135_61, e135_62, e135_63, e135_66, e135_67, e135_70, kl_I, kl_R, kl_N, kl_L, oSm, oNn, Option.bind_some, wN, if_pos, if_neg, nS, tN, t0, w0, w1, w2, w3, w4, w5, wm1, upA_ne, upA_same, if_true, if_false, Bool.false_eq_true, q135, ww, hik, s0, s1, hk0, hN0, a1, e139]
            exact End.of rfl ⟨rfl, a3⟩
          · rw [if_neg h4]
            obtain ⟨r, σ1, a1, a2, a3⟩ := X137 (d := d) hX h hK h3
            rw [a2] at a1
            have hlt : tnS a.1.1 S.2.1 a.1.2.1 (2 ^ a.1.1) < 2 ^ 8 := bts_lt _ _
            have e139 := X139 (sh := sh) (d := d + 4) (σ := σ1) (b := tnS a.1.1 S.2.1 a.1.2.1 (2 ^ a.1.1)) (by omega)
            have xm := xand_m1 (a := tnS a.1.1 S.2.1 a.1.2.1 (2 ^ a.1.1)) (by omega)
            by_cases h5 : w = 0
            · rw [if_pos h5]
              simp (disch := first | assumption | omega | (simp (disch := omega) only [wN, w0, w1]; omega)) only [e135_0, e135_1, e135_4, e135_5, e135_6, e135_9, e135_10, e135_11, e135_12, e135_15, e135_18, e135_19, e135_22, e135_25, e135_26, e135_29, e135_32, e135_35, e135_37, e135_38, e135_39, e135_40, e135_43, e135_44, e135_47, e135_50, e135_51, e135_52, e135_55, e135_56, e135_57, e135_60, e135_61, e135_62, e135_63, e135_66, e135_67, e135_70, kl_I, kl_R, kl_N, kl_L, oSm, oNn, Option.bind_some, wN, if_pos, if_neg, nS, tN, t0, w0, w1, w2, w3, w4, w5, wm1, upA_ne, upA_same, if_true, if_false, Bool.false_eq_true, q135, ww, hik, s0, s1, hk0, hN0, a1, e139, xm]
              exact End.of rfl ⟨rfl, a3⟩
            · rw [if_neg h5]
              simp (disch := first | assumption | omega | (simp (disch := omega) only [wN, w0, w1]; omega)) only [e135_0, e135_1, e135_4, e135_5, e135_6, e135_9, e135_10, e135_11, e135_12, e135_15, e135_18, e135_19, e135_22, e135_25, e135_26, e135_29, e135_32, e135_35, e135_37, e135_38, e135_39, e135_40, e135_43, e135_44, e135_47, e135_50, e135_51, e135_52, e135_55, e135_56, e135_57, e135_60, e135_61, e135_62, e135_63, e135_66, e135_67, e135_70, kl_I, kl_R, kl_N, kl_L, oSm, oNn, Option.bind_some, wN, if_pos, if_neg, nS, tN, t0, w0, w1, w2, w3, w4, w5, wm1, upA_ne, upA_same, if_true, if_false, Bool.false_eq_true, q135, ww, hik, s0, s1, hk0, hN0, a1, e139, xm]
              exact End.of rfl ⟨rfl, a3⟩
        · rw [if_pos h3]
          have hI3 : ¬ (S.1 : Int) = (a.1.1 : Int) := fun q => h3 (by omega)
          simp (disch := first | assumption | omega | (simp (disch := omega) only [wN, w0, w1]; omega)) only [e135_0, e135_1, e135_4, e135_5, e135_6, e135_9, e135_10, e135_11, e135_12, e135_15, e135_18, e135_19, e135_22, e135_25, e135_26, e135_29, e135_32, e135_35, e135_37, e135_38, e135_39, e135_40, e135_43, e135_44, e135_47, e135_50, e135_51, e135_52, e135_55, e135_56, e135_57, e135_60, e135_61, e135_62, e135_63, e135_66, e135_67, e135_70, kl_I, kl_R, kl_N, kl_L, oSm, oNn, Option.bind_some, wN, if_pos, if_neg, nS, tN, t0, w0, w1, w2, w3, w4, w5, wm1, upA_ne, upA_same, if_true, if_false, Bool.false_eq_true, q135, ww, hik, s0, s1, hk0, hN0]
          exact End.of rfl ⟨rfl, h⟩
end XH
