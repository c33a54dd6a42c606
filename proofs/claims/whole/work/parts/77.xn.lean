/-! ===== fewestOf, keep, undo ===== -/
section XN
variable {sh : Shp} {d k ly n m : Nat} {σ : Mem} {a : AX} {z w v i : Int} {c : List Gt} {E : List Ed} {A P : Nat → Nat}
theorem X156 {lo te : Bool} (hX : XS sh) (h : InvX sh σ a) (hnm : a.1.1 ≤ a.1.2.2.1) : End (run sh (d + 13) 156 [mR 0, mI (bi lo), mI (bi te)] σ) (fun r σ' => r = some (mI (fwA a lo te)) ∧ InvX sh σ' a) := by
  obtain ⟨ho, s0, s1, s3, s4, s5, s6, s7, s8, s9, s10, s11, s12, s13, hnow, hkep, htap, k43, l43, hspg, hspb, htri, hrow, hcol, hkc, k69, l69, hrou, hfin, hsh, hR⟩ := id hX
  obtain ⟨so, u1, u2, u3, sg, sb, sl⟩ := id hnow
  have sgo := sg.1
  have sbo := sb.1
  have slo := sl.1
  have tpo := htap.1
  have spgo := hspg.1
  have spbo := hspb.1
  have trio := htri.1
  have rowo := hrow.1
  have colo := hcol.1
  have kco := hkc.1
  have rouo := hrou.1
  have fino := hfin.1
  have kpo := hkep.1
  obtain ⟨-, p0, p1, pcr, pk, pl, -⟩ := id hfin
  have pcro := pcr.1
  obtain ⟨⟨n, c, m, E, P, x⟩, K, B, s, T⟩ := a
  obtain ⟨⟨hS, hoS⟩, hik, hKp, hTp, h140, hTm, hT1⟩ := id h
  replace hS : HS σ 1 n c m E P (x : Int) := hS
  replace hoS : okZ n c m E P x := hoS
  replace hTp : HP σ 41 B s := hTp
  replace h140 : s ≤ 140 := h140
  replace hTm : HT sh σ 43 T := hTm
  replace hik : σ.1 0 2 = bi K.isSome := hik
  obtain ⟨hS0, hSG, hSB, hSF, hSL, hSx⟩ := id hS
  obtain ⟨n1, n4', c30, hv, m2, m5, E10, hvE, hPk, x16⟩ := id hoS
  replace hnm : n ≤ m := hnm
  have hk : okK n m c E := ⟨n4', m5, E10, c30, hv, hvE⟩
  have w6 : wi 6 = 6 := rfl
  have rl := rwL_le n (by omega) m (by omega)
  have hm0 := hSB.1
  show End _ (fun r σ' => r = some (mI (opA (rwL n m) te (fAn n m c E lo 7 0))) ∧ InvX sh σ' ((n, c, m, E, P, x), K, B, s, T))
  obtain ⟨r, σ0, o1, rfl, o3, o4⟩ := R98 (d := d + 10) (n := n) (m := m) (σ := σ) hrow (by omega) (by omega) n4'
  have hI0 := h.B o4.B (by omega) (by omega)
  have hS0' : HS σ0 1 n c m E P (x : Int) := hI0.1.1
  obtain ⟨r, σ1, a1, rfl, a3, a4, a5⟩ := U26 (d := d + 7) (lo := lo) pcr hnow (by omega) hS0' hk c30 (by omega)
  obtain ⟨r, σ2, b1, rfl, b3, b4⟩ := F286 (d := d + 10) (v := 0) (σ := σ1) pk (by omega) pl (by omega)
  have hI2 : InvX sh σ2 ((n, c, m, E, P, x), K, B, s, T) := (hI0.B a5.B (by omega) (by omega)).B b4.B (by omega) (by omega)
  have hK2 : HKs σ2 102 c m E (ahS lo c) := a3.e b4.1
  have hR2 : HR σ2 63 (rwL n m) := (o3.fr a5.B (by omega)).fr b4.B (by omega)
  have e38 : run sh (d + 12) 38 [mR 101] σ1 = some (none, σ2) := by
    have fo := hfin.1
    simp (disch := first | assumption | omega | (simp (disch := omega) only [wN, w0, w1]; omega)) only [e38_0, e38_1, e38_4, e38_5, e38_8, kl_I, kl_R, kl_N, kl_L, oSm, oNn, Option.bind_some, wN, if_pos, if_neg, nS, tN, t0, w0, w1, w2, w3, w4, w5, wm1, upA_ne, upA_same, if_true, if_false, Bool.false_eq_true, q38, p1, b1]
  have hz : ∀ i, i < 2048 → σ2.2 123 i = 0 := b3
  have key : ∀ l, fAn n m c E lo (7 - l) l = fAn n m c E lo 7 0 → l < 7 → (match fAl n m c E lo l with | some i => some (l, i) | none => fAn n m c E lo (7 - (l + 1)) (l + 1)) = fAn n m c E lo 7 0 := by
    intro l h1 h2
    rw [show 7 - l = (7 - (l + 1)) + 1 by omega, fAn] at h1
    exact h1
  have L := for_P (7) (fun l => ∀ (σ3 : Mem) (v4 : Option MV), ((InvX sh σ3 ((n, c, m, E, P, x), K, B, s, T) ∧ HR σ3 63 (rwL n m) ∧ HKs σ3 102 c m E (ahS lo c) ∧ tbO (σ3.2 123) n m c E (ahS lo c) (fun y => if y < 4 then σ2.1 61 y else σ2.1 120 y) ∧ (∀ y, n ≤ y → σ3.1 61 y = σ2.1 61 y) ∧ (∀ y, 4 ≤ y → σ3.1 120 y = σ2.1 120 y)) ∧ fAn n m c E lo (7 - l) l = fAn n m c E lo 7 0) → End (ev sh (d + 13) 156 48 [some (mR (0)), some (mI (bi lo)), some (mI (bi te)), some (mI ((l : Nat) : Int)), v4] [] σ3) (fun r σ' => r = some (mI (opA (rwL n m) te (fAn n m c E lo 7 0))) ∧ InvX sh σ' ((n, c, m, E, P, x), K, B, s, T))) (by
    intro σ3 v4 hp
    replace hp : (InvX sh σ3 ((n, c, m, E, P, x), K, B, s, T) ∧ HR σ3 63 (rwL n m) ∧ HKs σ3 102 c m E (ahS lo c) ∧ tbO (σ3.2 123) n m c E (ahS lo c) (fun y => if y < 4 then σ2.1 61 y else σ2.1 120 y) ∧ (∀ y, n ≤ y → σ3.1 61 y = σ2.1 61 y) ∧ (∀ y, 4 ≤ y → σ3.1 120 y = σ2.1 120 y)) ∧ fAn n m c E lo (7 - (7)) (7) = fAn n m c E lo 7 0 := hp
    show End (ev sh (d + 13) 156 48 [some (mR (0)), some (mI (bi lo)), some (mI (bi te)), some (mI (((7) : Nat) : Int)), v4] [] σ3) (fun r σ' => r = some (mI (opA (rwL n m) te (fAn n m c E lo 7 0))) ∧ InvX sh σ' ((n, c, m, E, P, x), K, B, s, T))
    have e := hp.2
    rw [Nat.sub_self, fAn] at e
    rw [e156_48, ← e]
    simp (disch := first | assumption | omega | (simp (disch := omega) only [wN, w0, w1]; omega)) only [e156_0, e156_1, e156_4, e156_5, e156_8, e156_11, e156_12, e156_15, e156_18, e156_21, e156_24, e156_25, e156_28, e156_31, e156_32, e156_35, e156_36, e156_39, e156_40, e156_43, e156_46, e156_47, e156_49, e156_51, e156_54, e156_55, e156_59, e156_60, e156_63, e156_66, e156_69, e156_70, e156_73, e156_74, e156_77, e156_79, e156_82, e156_83, e156_86, e156_89, e156_92, e156_93, e156_96, e156_99, e156_100, e156_103, e156_106, e156_107, e156_110, e156_111, e156_114, e156_117, e156_118, e156_121, e156_122, e156_125, e156_127, e156_130, e156_133, e156_134, e156_135, e156_138, e156_141, e156_144, e156_147, e156_149, kl_I, kl_R, kl_N, kl_L, oSm, oNn, Option.bind_some, wN, if_pos, if_neg, nS, tN, t0, w0, w1, w2, w3, w4, w5, wm1, upA_ne, upA_same, if_true, if_false, Bool.false_eq_true, w6]
    exact End.of rfl ⟨rfl, hp.1.1⟩) (fun l hi ih => by
    replace ih : ∀ (σ3 : Mem) (v4 : Option MV), ((InvX sh σ3 ((n, c, m, E, P, x), K, B, s, T) ∧ HR σ3 63 (rwL n m) ∧ HKs σ3 102 c m E (ahS lo c) ∧ tbO (σ3.2 123) n m c E (ahS lo c) (fun y => if y < 4 then σ2.1 61 y else σ2.1 120 y) ∧ (∀ y, n ≤ y → σ3.1 61 y = σ2.1 61 y) ∧ (∀ y, 4 ≤ y → σ3.1 120 y = σ2.1 120 y)) ∧ fAn n m c E lo (7 - (l + 1)) (l + 1) = fAn n m c E lo 7 0) → End (ev sh (d + 13) 156 48 [some (mR (0)), some (mI (bi lo)), some (mI (bi te)), some (mI (((l + 1) : Nat) : Int)), v4] [] σ3) (fun r σ' => r = some (mI (opA (rwL n m) te (fAn n m c E lo 7 0))) ∧ InvX sh σ' ((n, c, m, E, P, x), K, B, s, T)) := ih
    intro σ3 v4 hp
    replace hp : (InvX sh σ3 ((n, c, m, E, P, x), K, B, s, T) ∧ HR σ3 63 (rwL n m) ∧ HKs σ3 102 c m E (ahS lo c) ∧ tbO (σ3.2 123) n m c E (ahS lo c) (fun y => if y < 4 then σ2.1 61 y else σ2.1 120 y) ∧ (∀ y, n ≤ y → σ3.1 61 y = σ2.1 61 y) ∧ (∀ y, 4 ≤ y → σ3.1 120 y = σ2.1 120 y)) ∧ fAn n m c E lo (7 - l) l = fAn n m c E lo 7 0 := hp
    show End (ev sh (d + 13) 156 48 [some (mR (0)), some (mI (bi lo)), some (mI (bi te)), some (mI ((l : Nat) : Int)), v4] [] σ3) (fun r σ' => r = some (mI (opA (rwL n m) te (fAn n m c E lo 7 0))) ∧ InvX sh σ' ((n, c, m, E, P, x), K, B, s, T))
    have hi7 := hi
    have kk := key l hp.2 hi
    obtain ⟨hp1, -⟩ := hp
    have J := for_P ((rwL n m).length) (fun i => ∀ (σ4 : Mem), ((InvX sh σ4 ((n, c, m, E, P, x), K, B, s, T) ∧ HR σ4 63 (rwL n m) ∧ HKs σ4 102 c m E (ahS lo c) ∧ tbO (σ4.2 123) n m c E (ahS lo c) (fun y => if y < 4 then σ2.1 61 y else σ2.1 120 y) ∧ (∀ y, n ≤ y → σ4.1 61 y = σ2.1 61 y) ∧ (∀ y, 4 ≤ y → σ4.1 120 y = σ2.1 120 y)) ∧ fst1 (fun y => caB (farE E) c E (ahS lo c) l (pOf n ((rwL n m).getD y 0)) 0) ((rwL n m).length - i) i = fAl n m c E lo l) → End (ev sh (d + 13) 156 57 [some (mR (0)), some (mI (bi lo)), some (mI (bi te)), some (mI ((l : Nat) : Int)), some (mI ((i : Nat) : Int))] [] σ4) (fun r σ' => r = some (mI (opA (rwL n m) te (fAn n m c E lo 7 0))) ∧ InvX sh σ' ((n, c, m, E, P, x), K, B, s, T))) (by
      intro σ4  hp
      replace hp : (InvX sh σ4 ((n, c, m, E, P, x), K, B, s, T) ∧ HR σ4 63 (rwL n m) ∧ HKs σ4 102 c m E (ahS lo c) ∧ tbO (σ4.2 123) n m c E (ahS lo c) (fun y => if y < 4 then σ2.1 61 y else σ2.1 120 y) ∧ (∀ y, n ≤ y → σ4.1 61 y = σ2.1 61 y) ∧ (∀ y, 4 ≤ y → σ4.1 120 y = σ2.1 120 y)) ∧ fst1 (fun y => caB (farE E) c E (ahS lo c) l (pOf n ((rwL n m).getD y 0)) 0) ((rwL n m).length - ((rwL n m).length)) ((rwL n m).length) = fAl n m c E lo l := hp
      show End (ev sh (d + 13) 156 57 [some (mR (0)), some (mI (bi lo)), some (mI (bi te)), some (mI ((l : Nat) : Int)), some (mI ((((rwL n m).length) : Nat) : Int))] [] σ4) (fun r σ' => r = some (mI (opA (rwL n m) te (fAn n m c E lo 7 0))) ∧ InvX sh σ' ((n, c, m, E, P, x), K, B, s, T))
      have hl := hp.1.2.1.1
      have e := hp.2
      rw [fst1_e] at e
      rw [← e] at kk
      rw [e156_57]
      simp (disch := first | assumption | omega | (simp (disch := omega) only [wN, w0, w1]; omega)) only [e156_0, e156_1, e156_4, e156_5, e156_8, e156_11, e156_12, e156_15, e156_18, e156_21, e156_24, e156_25, e156_28, e156_31, e156_32, e156_35, e156_36, e156_39, e156_40, e156_43, e156_46, e156_47, e156_49, e156_51, e156_54, e156_55, e156_59, e156_60, e156_63, e156_66, e156_69, e156_70, e156_73, e156_74, e156_77, e156_79, e156_82, e156_83, e156_86, e156_89, e156_92, e156_93, e156_96, e156_99, e156_100, e156_103, e156_106, e156_107, e156_110, e156_111, e156_114, e156_117, e156_118, e156_121, e156_122, e156_125, e156_127, e156_130, e156_133, e156_134, e156_135, e156_138, e156_141, e156_144, e156_147, e156_149, kl_I, kl_R, kl_N, kl_L, oSm, oNn, Option.bind_some, wN, if_pos, if_neg, nS, tN, t0, w0, w1, w2, w3, w4, w5, wm1, upA_ne, upA_same, if_true, if_false, Bool.false_eq_true, s8, hl]
      exact ih _ _ ⟨hp.1, kk⟩) (fun i hi ih => by
      replace ih : ∀ (σ4 : Mem), ((InvX sh σ4 ((n, c, m, E, P, x), K, B, s, T) ∧ HR σ4 63 (rwL n m) ∧ HKs σ4 102 c m E (ahS lo c) ∧ tbO (σ4.2 123) n m c E (ahS lo c) (fun y => if y < 4 then σ2.1 61 y else σ2.1 120 y) ∧ (∀ y, n ≤ y → σ4.1 61 y = σ2.1 61 y) ∧ (∀ y, 4 ≤ y → σ4.1 120 y = σ2.1 120 y)) ∧ fst1 (fun y => caB (farE E) c E (ahS lo c) l (pOf n ((rwL n m).getD y 0)) 0) ((rwL n m).length - (i + 1)) (i + 1) = fAl n m c E lo l) → End (ev sh (d + 13) 156 57 [some (mR (0)), some (mI (bi lo)), some (mI (bi te)), some (mI ((l : Nat) : Int)), some (mI (((i + 1) : Nat) : Int))] [] σ4) (fun r σ' => r = some (mI (opA (rwL n m) te (fAn n m c E lo 7 0))) ∧ InvX sh σ' ((n, c, m, E, P, x), K, B, s, T)) := ih
      intro σ4  hp
      replace hp : (InvX sh σ4 ((n, c, m, E, P, x), K, B, s, T) ∧ HR σ4 63 (rwL n m) ∧ HKs σ4 102 c m E (ahS lo c) ∧ tbO (σ4.2 123) n m c E (ahS lo c) (fun y => if y < 4 then σ2.1 61 y else σ2.1 120 y) ∧ (∀ y, n ≤ y → σ4.1 61 y = σ2.1 61 y) ∧ (∀ y, 4 ≤ y → σ4.1 120 y = σ2.1 120 y)) ∧ fst1 (fun y => caB (farE E) c E (ahS lo c) l (pOf n ((rwL n m).getD y 0)) 0) ((rwL n m).length - i) i = fAl n m c E lo l := hp
      show End (ev sh (d + 13) 156 57 [some (mR (0)), some (mI (bi lo)), some (mI (bi te)), some (mI ((l : Nat) : Int)), some (mI ((i : Nat) : Int))] [] σ4) (fun r σ' => r = some (mI (opA (rwL n m) te (fAn n m c E lo 7 0))) ∧ InvX sh σ' ((n, c, m, E, P, x), K, B, s, T))
      obtain ⟨⟨g1, g2, g3, g4, g5, g7⟩, g6⟩ := hp
      have hl := g2.1
      have hN : σ4.1 1 0 = (n : Int) := g1.1.1.1
      rw [fst1_s hi] at g6
      obtain ⟨y1, y2⟩ := rwL_ok (n := n) (m := m) n4' m5 hi
      have e100 := R100 (d := d + 11) (j := i) hrow g2 (by omega) (by omega) hi
      obtain ⟨r, σ5, i1, rfl, i3, i4, i5⟩ := Y75x (d := d + 10) (σ := σ4) htri y2 n4' m5
      rw [y1] at i1
      have hI5 := g1.B (i4.B.w (x' := 44) (y' := 64) (by omega) (by omega)) (by omega) (by omega)
      have hR5 := g2.fr i4.B (by omega)
      have hK5 := g3.fr i4 (by omega)
      obtain ⟨r, σ6, t1', rfl, t3', t4', t5', t6'⟩ := U27x (d := d + 10) pcr hK5 n4' htri (by omega) i3
      have hF : HFn σ6 101 n m c E (ahS lo c) (fun y => if y < 4 then σ2.1 61 y else σ2.1 120 y) (pOf n ((rwL n m).getD i 0)) 0 := by
        refine ⟨t3', t4', fun y hy => ?_, ?_⟩
        · show σ6.1 120 y = if y < 4 then σ2.1 61 y else σ2.1 120 y
          rw [t6' y]
          by_cases e : y < 4
          · rw [if_pos e, if_pos e]
            show σ5.1 61 y = _
            rw [i5 y hy]; exact g5 y hy
          · rw [if_neg e, if_neg e]
            show σ5.1 120 y = _
            rw [i4.1 120 (by omega)]; exact g7 y (by omega)
        · show tbO (σ6.2 123) _ _ _ _ _ _
          rw [t5'.2, i4.2]; exact g4
      obtain ⟨r, σ7, j1, j2, j3, j4⟩ := V39 hfin hk l (d + 7 - l) σ6 _ 0 (by omega) hF y2 (Nat.two_pow_pos _)
      rw [show d + 7 - l + 5 + l = d + 12 by omega, j2] at j1
      have hI7 : InvX sh σ7 ((n, c, m, E, P, x), K, B, s, T) := (hI5.B t5'.B (by omega) (by omega)).B j4 (by omega) (by omega)
      have hR7 : HR σ7 63 (rwL n m) := (hR5.fr t5'.B (by omega)).fr j4 (by omega)
      rw [e156_57]
      cases hcb : caB (farE E) c E (ahS lo c) l (pOf n ((rwL n m).getD i 0)) 0 with
      | true =>
        rw [hcb] at j1
        have j1 : run sh (d + 12) 39 [mR 101, mI (l : Int)] σ6 = some (some (mI 1), σ7) := j1
        rw [hcb, if_pos rfl] at g6
        rw [← g6] at kk
        rw [← kk]
        have e100' := R100 (d := d + 11) (j := i) hrow hR7 (by omega) (by omega) hi
        cases te with
        | true =>
          have b1 : bi true = 1 := rfl
          simp (disch := first | assumption | omega | (simp (disch := omega) only [wN, w0, w1]; omega)) only [e156_0, e156_1, e156_4, e156_5, e156_8, e156_11, e156_12, e156_15, e156_18, e156_21, e156_24, e156_25, e156_28, e156_31, e156_32, e156_35, e156_36, e156_39, e156_40, e156_43, e156_46, e156_47, e156_49, e156_51, e156_54, e156_55, e156_59, e156_60, e156_63, e156_66, e156_69, e156_70, e156_73, e156_74, e156_77, e156_79, e156_82, e156_83, e156_86, e156_89, e156_92, e156_93, e156_96, e156_99, e156_100, e156_103, e156_106, e156_107, e156_110, e156_111, e156_114, e156_117, e156_118, e156_121, e156_122, e156_125, e156_127, e156_130, e156_133, e156_134, e156_135, e156_138, e156_141, e156_144, e156_147, e156_149, kl_I, kl_R, kl_N, kl_L, oSm, oNn, Option.bind_some, wN, if_pos, if_neg, nS, tN, t0, w0, w1, w2, w3, w4, w5, wm1, upA_ne, upA_same, if_true, if_false, Bool.false_eq_true, s0, s7, s8, s13, hl, hN, p0, e100, i1, t1', j1, b1, e100']
          exact End.of rfl ⟨rfl, hI7⟩
        | false =>
          have b1 : bi false = 0 := rfl
          simp (disch := first | assumption | omega | (simp (disch := omega) only [wN, w0, w1]; omega)) only [e156_0, e156_1, e156_4, e156_5, e156_8, e156_11, e156_12, e156_15, e156_18, e156_21, e156_24, e156_25, e156_28, e156_31, e156_32, e156_35, e156_36, e156_39, e156_40, e156_43, e156_46, e156_47, e156_49, e156_51, e156_54, e156_55, e156_59, e156_60, e156_63, e156_66, e156_69, e156_70, e156_73, e156_74, e156_77, e156_79, e156_82, e156_83, e156_86, e156_89, e156_92, e156_93, e156_96, e156_99, e156_100, e156_103, e156_106, e156_107, e156_110, e156_111, e156_114, e156_117, e156_118, e156_121, e156_122, e156_125, e156_127, e156_130, e156_133, e156_134, e156_135, e156_138, e156_141, e156_144, e156_147, e156_149, kl_I, kl_R, kl_N, kl_L, oSm, oNn, Option.bind_some, wN, if_pos, if_neg, nS, tN, t0, w0, w1, w2, w3, w4, w5, wm1, upA_ne, upA_same, if_true, if_false, Bool.false_eq_true, s0, s7, s8, s13, hl, hN, p0, e100, i1, t1', j1, b1]
          exact End.of rfl ⟨rfl, hI7⟩
      | false =>
        rw [hcb] at j1
        have j1 : run sh (d + 12) 39 [mR 101, mI (l : Int)] σ6 = some (some (mI 0), σ7) := j1
        rw [hcb, if_neg (by simp)] at g6
        obtain ⟨q1', q2', q3', q4'⟩ := j3 hcb
        simp (disch := first | assumption | omega | (simp (disch := omega) only [wN, w0, w1]; omega)) only [e156_0, e156_1, e156_4, e156_5, e156_8, e156_11, e156_12, e156_15, e156_18, e156_21, e156_24, e156_25, e156_28, e156_31, e156_32, e156_35, e156_36, e156_39, e156_40, e156_43, e156_46, e156_47, e156_49, e156_51, e156_54, e156_55, e156_59, e156_60, e156_63, e156_66, e156_69, e156_70, e156_73, e156_74, e156_77, e156_79, e156_82, e156_83, e156_86, e156_89, e156_92, e156_93, e156_96, e156_99, e156_100, e156_103, e156_106, e156_107, e156_110, e156_111, e156_114, e156_117, e156_118, e156_121, e156_122, e156_125, e156_127, e156_130, e156_133, e156_134, e156_135, e156_138, e156_141, e156_144, e156_147, e156_149, kl_I, kl_R, kl_N, kl_L, oSm, oNn, Option.bind_some, wN, if_pos, if_neg, nS, tN, t0, w0, w1, w2, w3, w4, w5, wm1, upA_ne, upA_same, if_true, if_false, Bool.false_eq_true, s0, s7, s8, s13, hl, hN, p0, e100, i1, t1', j1]
        refine ih _ ⟨⟨hI7, hR7, q1', q4', fun y hy => ?_, fun y hy => ?_⟩, g6⟩
        · rw [(j4 61 (by omega)).1, t5'.1 61 (by omega)]
          show σ5.1 61 y = _
          rw [i5 y hy]; exact g5 y hy
        · have := q3' y (by omega)
          simp only [show ¬ y < 4 by omega, if_false] at this
          exact this) 0 (Nat.zero_le _)
    rw [e156_48]
    simp (disch := first | assumption | omega | (simp (disch := omega) only [wN, w0, w1]; omega)) only [e156_0, e156_1, e156_4, e156_5, e156_8, e156_11, e156_12, e156_15, e156_18, e156_21, e156_24, e156_25, e156_28, e156_31, e156_32, e156_35, e156_36, e156_39, e156_40, e156_43, e156_46, e156_47, e156_49, e156_51, e156_54, e156_55, e156_59, e156_60, e156_63, e156_66, e156_69, e156_70, e156_73, e156_74, e156_77, e156_79, e156_82, e156_83, e156_86, e156_89, e156_92, e156_93, e156_96, e156_99, e156_100, e156_103, e156_106, e156_107, e156_110, e156_111, e156_114, e156_117, e156_118, e156_121, e156_122, e156_125, e156_127, e156_130, e156_133, e156_134, e156_135, e156_138, e156_141, e156_144, e156_147, e156_149, kl_I, kl_R, kl_N, kl_L, oSm, oNn, Option.bind_some, wN, if_pos, if_neg, nS, tN, t0, w0, w1, w2, w3, w4, w5, wm1, upA_ne, upA_same, if_true, if_false, Bool.false_eq_true, w6]
    exact J σ3 ⟨hp1, rfl⟩) 0 (Nat.zero_le _)
  simp (disch := first | assumption | omega | (simp (disch := omega) only [wN, w0, w1]; omega)) only [e156_0, e156_1, e156_4, e156_5, e156_8, e156_11, e156_12, e156_15, e156_18, e156_21, e156_24, e156_25, e156_28, e156_31, e156_32, e156_35, e156_36, e156_39, e156_40, e156_43, e156_46, e156_47, e156_49, e156_51, e156_54, e156_55, e156_59, e156_60, e156_63, e156_66, e156_69, e156_70, e156_73, e156_74, e156_77, e156_79, e156_82, e156_83, e156_86, e156_89, e156_92, e156_93, e156_96, e156_99, e156_100, e156_103, e156_106, e156_107, e156_110, e156_111, e156_114, e156_117, e156_118, e156_121, e156_122, e156_125, e156_127, e156_130, e156_133, e156_134, e156_135, e156_138, e156_141, e156_144, e156_147, e156_149, kl_I, kl_R, kl_N, kl_L, oSm, oNn, Option.bind_some, wN, if_pos, if_neg, nS, tN, t0, w0, w1, w2, w3, w4, w5, wm1, upA_ne, upA_same, if_true, if_false, Bool.false_eq_true, q156, s0, s8, s13, u2, hS0, hm0, p0, o1, a1, e38]
  exact L σ2 none ⟨⟨hI2, hR2, hK2, fun i hi => Or.inl (hz i hi), fun y hy => rfl, fun y hy => rfl⟩, rfl⟩
theorem X154 (hX : XS sh) (h : InvX sh σ a) (hw' : i32 w) : End (run sh (d + 14) 154 [mR 0, mI w] σ) (fun r σ' => r = some (mI (aFewOf a w)) ∧ InvX sh σ' a) := by
  have e142 := X142 (d := d + 12) hX h
  have ho := hX.1
  have ww := hw'.w
  unfold aFewOf
  by_cases h1 : w < 0
  · rw [if_pos (Or.inl h1)]
    simp (disch := first | assumption | omega | (simp (disch := omega) only [wN, w0, w1]; omega)) only [e154_0, e154_1, e154_4, e154_5, e154_6, e154_9, e154_10, e154_11, e154_12, e154_15, e154_18, e154_20, e154_21, e154_22, e154_25, e154_26, e154_27, e154_30, e154_31, e154_32, e154_33, e154_34, e154_37, e154_38, e154_41, e154_42, e154_43, e154_44, e154_45, e154_48, e154_49, e154_52, e154_53, e154_56, kl_I, kl_R, kl_N, kl_L, oSm, oNn, Option.bind_some, wN, if_pos, if_neg, nS, tN, t0, w0, w1, w2, w3, w4, w5, wm1, upA_ne, upA_same, if_true, if_false, Bool.false_eq_true, q154, ww]
    exact End.of rfl ⟨rfl, h⟩
  · by_cases h2 : 4 < w
    · rw [if_pos (Or.inr h2)]
      simp (disch := first | assumption | omega | (simp (disch := omega) only [wN, w0, w1]; omega)) only [e154_0, e154_1, e154_4, e154_5, e154_6, e154_9, e154_10, e154_11, e154_12, e154_15, e154_18, e154_20, e154_21, e154_22, e154_25, e154_26, e154_27, e154_30, e154_31, e154_32, e154_33, e154_34, e154_37, e154_38, e154_41, e154_42, e154_43, e154_44, e154_45, e154_48, e154_49, e154_52, e154_53, e154_56, kl_I, kl_R, kl_N, kl_L, oSm, oNn, Option.bind_some, wN, if_pos, if_neg, nS, tN, t0, w0, w1, w2, w3, w4, w5, wm1, upA_ne, upA_same, if_true, if_false, Bool.false_eq_true, q154, ww]
      exact End.of rfl ⟨rfl, h⟩
    · rw [if_neg (by omega)]
      by_cases h3 : a.1.2.2.1 < a.1.1
      · rw [if_pos h3] at e142 ⊢
        simp (disch := first | assumption | omega | (simp (disch := omega) only [wN, w0, w1]; omega)) only [e154_0, e154_1, e154_4, e154_5, e154_6, e154_9, e154_10, e154_11, e154_12, e154_15, e154_18, e154_20, e154_21, e154_22, e154_25, e154_26, e154_27, e154_30, e154_31, e154_32, e154_33, e154_34, e154_37, e154_38, e154_41, e154_42, e154_43, e154_44, e154_45, e154_48, e154_49, e154_52, e154_53, e154_56, kl_I, kl_R, kl_N, kl_L, oSm, oNn, Option.bind_some, wN, if_pos, if_neg, nS, tN, t0, w0, w1, w2, w3, w4, w5, wm1, upA_ne, upA_same, if_true, if_false, Bool.false_eq_true, q154, ww, e142]
        exact End.of rfl ⟨rfl, h⟩
      · rw [if_neg h3] at e142 ⊢
        have fa : ∀ lo te, End (run sh (d + 13) 156 [mR 0, mI (bi lo), mI (bi te)] σ) (fun r σ' => r = some (mI (fwA a lo te)) ∧ InvX sh σ' a) := fun lo te => X156 (d := d) hX h (by omega)
        have y2 : ¬ wi 2 = 0 := by decide
        rcases (show w = 0 ∨ w = 1 ∨ w = 2 ∨ w = 3 ∨ w = 4 by omega) with rfl | rfl | rfl | rfl | rfl
        · obtain ⟨r, σ1, a1, a2, a3⟩ := X155 (d := d) (lo := true) hX h (by omega)
          have a1 : run sh (d + 13) 155 [mR 0, mI 1] σ = some (r, σ1) := a1
          rw [a2] at a1
          simp (disch := first | assumption | omega | (simp (disch := omega) only [wN, w0, w1]; omega)) only [e154_0, e154_1, e154_4, e154_5, e154_6, e154_9, e154_10, e154_11, e154_12, e154_15, e154_18, e154_20, e154_21, e154_22, e154_25, e154_26, e154_27, e154_30, e154_31, e154_32, e154_33, e154_34, e154_37, e154_38, e154_41, e154_42, e154_43, e154_44, e154_45, e154_48, e154_49, e154_52, e154_53, e154_56, kl_I, kl_R, kl_N, kl_L, oSm, oNn, Option.bind_some, wN, if_pos, if_neg, nS, tN, t0, w0, w1, w2, w3, w4, w5, wm1, upA_ne, upA_same, if_true, if_false, Bool.false_eq_true, q154, e142, a1]
          exact End.of rfl ⟨rfl, a3⟩
        · obtain ⟨r, σ1, a1, a2, a3⟩ := fa false false
          have a1 : run sh (d + 13) 156 [mR 0, mI 0, mI 0] σ = some (r, σ1) := a1
          rw [a2] at a1
          have xr : xrem 1 2 = 1 := by decide +kernel
          simp (disch := first | assumption | omega | (simp (disch := omega) only [wN, w0, w1]; omega)) only [e154_0, e154_1, e154_4, e154_5, e154_6, e154_9, e154_10, e154_11, e154_12, e154_15, e154_18, e154_20, e154_21, e154_22, e154_25, e154_26, e154_27, e154_30, e154_31, e154_32, e154_33, e154_34, e154_37, e154_38, e154_41, e154_42, e154_43, e154_44, e154_45, e154_48, e154_49, e154_52, e154_53, e154_56, kl_I, kl_R, kl_N, kl_L, oSm, oNn, Option.bind_some, wN, if_pos, if_neg, nS, tN, t0, w0, w1, w2, w3, w4, w5, wm1, upA_ne, upA_same, if_true, if_false, Bool.false_eq_true, q154, e142, xr, a1]
          exact End.of rfl ⟨rfl, a3⟩
        · obtain ⟨r, σ1, a1, a2, a3⟩ := fa false true
          have a1 : run sh (d + 13) 156 [mR 0, mI 0, mI 1] σ = some (r, σ1) := a1
          rw [a2] at a1
          have xr : xrem 2 2 = 0 := by decide +kernel
          simp (disch := first | assumption | omega | (simp (disch := omega) only [wN, w0, w1]; omega)) only [e154_0, e154_1, e154_4, e154_5, e154_6, e154_9, e154_10, e154_11, e154_12, e154_15, e154_18, e154_20, e154_21, e154_22, e154_25, e154_26, e154_27, e154_30, e154_31, e154_32, e154_33, e154_34, e154_37, e154_38, e154_41, e154_42, e154_43, e154_44, e154_45, e154_48, e154_49, e154_52, e154_53, e154_56, kl_I, kl_R, kl_N, kl_L, oSm, oNn, Option.bind_some, wN, if_pos, if_neg, nS, tN, t0, w0, w1, w2, w3, w4, w5, wm1, upA_ne, upA_same, if_true, if_false, Bool.false_eq_true, q154, e142, xr, a1]
          exact End.of rfl ⟨rfl, a3⟩
        · obtain ⟨r, σ1, a1, a2, a3⟩ := fa true false
          have a1 : run sh (d + 13) 156 [mR 0, mI 1, mI 0] σ = some (r, σ1) := a1
          rw [a2] at a1
          have xr : xrem 3 2 = 1 := by decide +kernel
          simp (disch := first | assumption | omega | (simp (disch := omega) only [wN, w0, w1]; omega)) only [e154_0, e154_1, e154_4, e154_5, e154_6, e154_9, e154_10, e154_11, e154_12, e154_15, e154_18, e154_20, e154_21, e154_22, e154_25, e154_26, e154_27, e154_30, e154_31, e154_32, e154_33, e154_34, e154_37, e154_38, e154_41, e154_42, e154_43, e154_44, e154_45, e154_48, e154_49, e154_52, e154_53, e154_56, kl_I, kl_R, kl_N, kl_L, oSm, oNn, Option.bind_some, wN, if_pos, if_neg, nS, tN, t0, w0, w1, w2, w3, w4, w5, wm1, upA_ne, upA_same, if_true, if_false, Bool.false_eq_true, q154, e142, xr, a1]
          exact End.of rfl ⟨rfl, a3⟩
        · obtain ⟨r, σ1, a1, a2, a3⟩ := fa true true
          have a1 : run sh (d + 13) 156 [mR 0, mI 1, mI 1] σ = some (r, σ1) := a1
          rw [a2] at a1
          have xr : xrem 4 2 = 0 := by decide +kernel
          simp (disch := first | assumption | omega | (simp (disch := omega) only [wN, w0, w1]; omega)) only [e154_0, e154_1, e154_4, e154_5, e154_6, e154_9, e154_10, e154_11, e154_12, e154_15, e154_18, e154_20, e154_21, e154_22, e154_25, e154_26, e154_27, e154_30, e154_31, e154_32, e154_33, e154_34, e154_37, e154_38, e154_41, e154_42, e154_43, e154_44, e154_45, e154_48, e154_49, e154_52, e154_53, e154_56, kl_I, kl_R, kl_N, kl_L, oSm, oNn, Option.bind_some, wN, if_pos, if_neg, nS, tN, t0, w0, w1, w2, w3, w4, w5, wm1, upA_ne, upA_same, if_true, if_false, Bool.false_eq_true, q154, e142, xr, a1]
          exact End.of rfl ⟨rfl, a3⟩
theorem X160 (hX : XS sh) (h : InvX sh σ a) : End (run sh (d + 5) 160 [mR 0] σ) (fun r σ' => r = some (mI (aKeep a).1) ∧ InvX sh σ' (aKeep a).2) := by
  obtain ⟨ho, s0, s1, s3, s4, s5, s6, s7, s8, s9, s10, s11, s12, s13, hnow, hkep, htap, k43, l43, hspg, hspb, htri, hrow, hcol, hkc, k69, l69, hrou, hfin, hsh, hR⟩ := id hX
  obtain ⟨so, u1, u2, u3, sg, sb, sl⟩ := id hnow
  have sgo := sg.1
  have sbo := sb.1
  have slo := sl.1
  have tpo := htap.1
  have spgo := hspg.1
  have spbo := hspb.1
  have trio := htri.1
  have rowo := hrow.1
  have colo := hcol.1
  have kco := hkc.1
  have rouo := hrou.1
  have fino := hfin.1
  have kpo := hkep.1
  obtain ⟨⟨n, c, m, E, P, x⟩, K, B, s, T⟩ := a
  obtain ⟨⟨hS, hoS⟩, hik, hKp, hTp, h140, hTm, hT1⟩ := id h
  replace hS : HS σ 1 n c m E P (x : Int) := hS
  replace hoS : okZ n c m E P x := hoS
  replace hTp : HP σ 41 B s := hTp
  replace h140 : s ≤ 140 := h140
  replace hTm : HT sh σ 43 T := hTm
  replace hik : σ.1 0 2 = bi K.isSome := hik
  obtain ⟨hS0, hSG, hSB, hSF, hSL, hSx⟩ := id hS
  obtain ⟨n1, n4', c30, hv, m2, m5, E10, hvE, hPk, x16⟩ := id hoS
  obtain ⟨r, σ1, a1, rfl, a3, f1⟩ := S102 (d := d) hkep hnow (by omega) hS n4' c30 c30 (by omega) (by omega) hv E10 m5 hvE
  have f2 : frI 0 0 σ1 (upA σ1.1 0 (up1 (σ1.1 0) 2 1), σ1.2) := frI.up (by omega)
  have hl : σ1.1 (1 + 1) 6 = (c.length : Int) := by rw [f1.1 (1 + 1) (by omega)]; exact hSG.1
  simp (disch := first | assumption | omega | (simp (disch := omega) only [wN, w0, w1]; omega)) only [e160_0, e160_1, e160_4, e160_5, e160_8, e160_11, e160_12, e160_13, e160_16, e160_17, e160_20, e160_23, e160_26, kl_I, kl_R, kl_N, kl_L, oSm, oNn, Option.bind_some, wN, if_pos, if_neg, nS, tN, t0, w0, w1, w2, w3, w4, w5, wm1, upA_ne, upA_same, if_true, if_false, Bool.false_eq_true, q160, s0, s1, u1, a1, hl]
  have hkS : HSo (upA σ1.1 0 (up1 (σ1.1 0) 2 1), σ1.2) 21 (n, c, m, E, P, x) := HSo.k (σ := σ1) ⟨a3, hoS⟩ (fun b b1 b2 b3 b4 => f2.1 b (by omega))
  have fk : ∀ b, b ≠ 0 → (b < 21 ∨ 40 < b) → (upA σ1.1 0 (up1 (σ1.1 0) 2 1)) b = σ.1 b := fun b b1 b2 => by rw [upA_ne b1]; exact f1.1 b (by omega)
  obtain ⟨i1, i2, i3, i4, i5, i6, i7⟩ := id h
  have hI : InvX sh (upA σ1.1 0 (up1 (σ1.1 0) 2 1), σ1.2) (aKeep ((n, c, m, E, P, x), K, B, s, T)).2 := by
    refine ⟨i1.k (fun b b1 b2 b3 b4 => fk b (by omega) (by omega)), ?_, fun S hS' => ?_, i4.k (fk 41 (by omega) (by omega)) (fk 42 (by omega) (by omega)), i5, i6.k (fk 43 (by omega) (by omega)), i7.k (fk _ (by omega) (by omega))⟩
    · simp (disch := omega) only [upA_same, up1_same]
      rfl
    · cases hS'
      exact hkS
  exact End.of rfl ⟨rfl, hI⟩
theorem X161 (hX : XS sh) (h : InvX sh σ a) : End (run sh (d + 5) 161 [mR 0] σ) (fun r σ' => r = some (mI (aUndo a).1) ∧ InvX sh σ' (aUndo a).2) := by
  have hik := h.2.1
  obtain ⟨ho, s0, s1, s3, s4, s5, s6, s7, s8, s9, s10, s11, s12, s13, hnow, hkep, htap, k43, l43, hspg, hspb, htri, hrow, hcol, hkc, k69, l69, hrou, hfin, hsh, hR⟩ := id hX
  obtain ⟨so, u1, u2, u3, sg, sb, sl⟩ := id hnow
  have sgo := sg.1
  have sbo := sb.1
  have slo := sl.1
  have tpo := htap.1
  have spgo := hspg.1
  have spbo := hspb.1
  have trio := htri.1
  have rowo := hrow.1
  have colo := hcol.1
  have kco := hkc.1
  have rouo := hrou.1
  have fino := hfin.1
  have kpo := hkep.1
  unfold aUndo
  cases hK : a.2.1 with
  | none =>
    rw [hK] at hik
    have hik : σ.1 0 2 = 0 := hik
    simp (disch := first | assumption | omega | (simp (disch := omega) only [wN, w0, w1]; omega)) only [e161_0, e161_1, e161_4, e161_7, e161_8, e161_9, e161_10, e161_13, e161_14, e161_17, e161_20, e161_21, kl_I, kl_R, kl_N, kl_L, oSm, oNn, Option.bind_some, wN, if_pos, if_neg, nS, tN, t0, w0, w1, w2, w3, w4, w5, wm1, upA_ne, upA_same, if_true, if_false, Bool.false_eq_true, q161, hik]
    exact End.of rfl ⟨rfl, h⟩
  | some S =>
    rw [hK] at hik
    have hik : σ.1 0 2 = 1 := hik
    obtain ⟨k1, k2⟩ := h.2.2.1 S hK
    obtain ⟨n, c, m, E, P, x⟩ := S
    have k1 : HS σ 21 n c m E P (x : Int) := k1
    obtain ⟨n1, n4', c30, hv, m2, m5, E10, hvE, hPk, x16⟩ := (show okZ n c m E P x from k2)
    obtain ⟨r, σ1, a1, rfl, a3, f1⟩ := S102 (d := d) hnow hkep (by omega) k1 n4' c30 c30 (by omega) (by omega) hv E10 m5 hvE
    simp (disch := first | assumption | omega | (simp (disch := omega) only [wN, w0, w1]; omega)) only [e161_0, e161_1, e161_4, e161_7, e161_8, e161_9, e161_10, e161_13, e161_14, e161_17, e161_20, e161_21, kl_I, kl_R, kl_N, kl_L, oSm, oNn, Option.bind_some, wN, if_pos, if_neg, nS, tN, t0, w0, w1, w2, w3, w4, w5, wm1, upA_ne, upA_same, if_true, if_false, Bool.false_eq_true, q161, hik, s0, s1, a1]
    exact End.of rfl ⟨rfl, h.now (fun b hb => f1.1 b (by omega)) ⟨a3, k2⟩⟩
end XN

