/-! ===== fewest, fewestOf, keep, undo ===== -/
def fwO (n : Nat) (c : List Gt) (E : List Ed) (P : Nat → Nat) (lo : Bool) : Option Nat := fst1 (fun l => caB (farE E) c E (ahS lo c) l P 0) (7 - 0) 0
def fwI' (a : AX) (lo : Bool) : Int := opM (fwO a.1.1 a.1.2.1 a.1.2.2.2.1 a.1.2.2.2.2.1 lo)
def fAl (n m : Nat) (c : List Gt) (E : List Ed) (lo : Bool) (l : Nat) : Option Nat := fst1 (fun i => caB (farE E) c E (ahS lo c) l (pOf n ((rwL n m).getD i 0)) 0) ((rwL n m).length - 0) 0
def fAn (n m : Nat) (c : List Gt) (E : List Ed) (lo : Bool) : Nat → Nat → Option (Nat × Nat)
  | 0, _ => none
  | f + 1, l => match fAl n m c E lo l with
    | some i => some (l, i)
    | none => fAn n m c E lo f (l + 1)
def opA (L : List Nat) (te : Bool) : Option (Nat × Nat) → Int
  | none => -2
  | some q => if te = true then (L.getD q.2 0 : Int) else (q.1 : Int)
def fwA (a : AX) (lo te : Bool) : Int := opA (rwL a.1.1 a.1.2.2.1) te (fAn a.1.1 a.1.2.2.1 a.1.2.1 a.1.2.2.2.1 lo 7 0)
def aFewest (a : AX) : Int := if a.1.2.2.1 < a.1.1 then -3 else fwI' a false
def aFewOf (a : AX) (w : Int) : Int := if w < 0 ∨ 4 < w then -1 else if a.1.2.2.1 < a.1.1 then -3 else if w = 0 then fwI' a true else fwA a (decide (3 ≤ w)) (decide (w % 2 = 0))
def aKeep (a : AX) : Int × AX := ((a.1.2.1.length : Int), (a.1, some a.1, a.2.2))
def aUndo (a : AX) : Int × AX := match a.2.1 with
  | none => (0, a)
  | some S => (1, (S, a.2))
section XM
variable {sh : Shp} {d k ly n m : Nat} {σ : Mem} {a : AX} {z w v i : Int} {c : List Gt} {E : List Ed} {A P : Nat → Nat}
theorem U27x (hs : crS sh k) (hK : HKs σ k c m E A) (hn : n ≤ 4) (hly : lyS sh ly) (hap : ly + 2 < k ∨ k + 20 < ly) (hL : HL σ ly n P) : End (run sh (d + 2) 27 [mR k, mR ly] σ) (fun r σ' => r = none ∧ HKs σ' k c m E A ∧ HKm σ' k n P 0 ∧ frI k (k + 19) σ σ' ∧ ∀ x, σ'.1 (k + 18) x = if x < 4 then σ.1 (ly + 1) x else σ.1 (k + 18) x) := by
  obtain ⟨ho, r0, r1, r2, r3, hgl, hB, hL1, k1, l1, hw⟩ := id hs
  have hlo := hL1.1
  obtain ⟨r, σ1, f1, rfl, f3, f4, f5⟩ := Y76x (d := d) hL1 hly (by omega) hn hL
  simp (disch := first | assumption | omega | (simp (disch := omega) only [wN, w0, w1]; omega)) only [e27_0, e27_1, e27_4, e27_5, e27_8, e27_9, e27_10, e27_13, kl_I, kl_R, kl_N, kl_L, oSm, oNn, Option.bind_some, wN, if_pos, if_neg, nS, tN, t0, w0, w1, w2, w3, w4, w5, wm1, upA_ne, upA_same, if_true, if_false, Bool.false_eq_true, q27, r2, f1]
  refine End.of rfl ⟨rfl, (hK.fr f4 (by omega)).fr (frI.up (x := k) (y := k) (by omega)) (by omega), ⟨f3.fr (frI.up (x := k) (y := k) (by omega)) (by omega), ?_⟩, (f4.w (by omega) (by omega)).tr (frI.up (by omega)), fun x => ?_⟩
  · show upA _ _ _ _ _ = _
    rw [upA_same, up1_same]; rfl
  · show upA _ _ _ _ _ = _
    rw [upA_ne (by omega)]
    exact f5 x
theorem HKs.B {σ' : Mem} {x y : Nat} (h : HKs σ k c m E A) (hf : frB x y σ σ') (h1 : k + 20 < x ∨ y < k) : HKs σ' k c m E A := by
  obtain ⟨a1, a2, ⟨G, a3, a3'⟩, a4⟩ := h
  refine ⟨a1.k (fun b b1 b2 => (hf b (by omega)).1), ⟨?_, ?_, fun j hj => ?_⟩, ⟨G, fun p hp q hq => ?_, a3'⟩, fun g hg => ?_⟩
  · rw [(hf _ (by omega)).1]; exact a2.1
  · rw [(hf _ (by omega)).1]; exact a2.2.1
  · rw [(hf _ (by omega)).1, (hf _ (by omega)).1]; exact a2.2.2 j hj
  · rw [(hf _ (by omega)).1]; exact a3 p hp q hq
  · rw [(hf _ (by omega)).1]; exact a4 g hg
theorem X155 {lo : Bool} (hX : XS sh) (h : InvX sh σ a) (hnm : a.1.1 ≤ a.1.2.2.1) : End (run sh (d + 13) 155 [mR 0, mI (bi lo)] σ) (fun r σ' => r = some (mI (fwI' a lo)) ∧ InvX sh σ' a) := by
  obtain ⟨ho, s0, s1, s3, s4, s5, s6, s7, s8, s9, s10, s11, s12, s13, hnow, hkep, htap, k43, l43, hspg, hspb, htri, hrow, hcol, hkc, k69, l69, hrou, hfin, hsh, hR⟩ := id hX
  obtain ⟨so, u1, u2, u3, sg, sb, sl⟩ := id hnow
  have sgo := sg.1
  have sbo := sb.1
  have slo := sl.1
  have tpo := htap.1
  have spgo := hspg.1
  have spbo := hspb.1
  have trio := htri.1
  have rowo := hrow.1
  have colo := hcol.1
  have kco := hkc.1
  have rouo := hrou.1
  have fino := hfin.1
  have kpo := hkep.1
  obtain ⟨-, p0, p1, pcr, pk, pl, -⟩ := id hfin
  have pcro := pcr.1
  obtain ⟨⟨n, c, m, E, P, x⟩, K, B, s, T⟩ := a
  obtain ⟨⟨hS, hoS⟩, hik, hKp, hTp, h140, hTm, hT1⟩ := id h
  replace hS : HS σ 1 n c m E P (x : Int) := hS
  replace hoS : okZ n c m E P x := hoS
  replace hTp : HP σ 41 B s := hTp
  replace h140 : s ≤ 140 := h140
  replace hTm : HT sh σ 43 T := hTm
  replace hik : σ.1 0 2 = bi K.isSome := hik
  obtain ⟨hS0, hSG, hSB, hSF, hSL, hSx⟩ := id hS
  obtain ⟨n1, n4', c30, hv, m2, m5, E10, hvE, hPk, x16⟩ := id hoS
  replace hnm : n ≤ m := hnm
  have hk : okK n m c E := ⟨n4', m5, E10, c30, hv, hvE⟩
  have hP := hPk hnm
  have w6 : wi 6 = 6 := rfl
  show End _ (fun r σ' => r = some (mI (opM (fwO n c E P lo))) ∧ InvX sh σ' ((n, c, m, E, P, x), K, B, s, T))
  obtain ⟨r, σ1, a1, rfl, a3, a4, a5⟩ := U26 (d := d + 7) (lo := lo) pcr hnow (by omega) hS hk c30 (by omega)
  obtain ⟨r, σ2, b1, rfl, b3, b4⟩ := F286 (d := d + 10) (v := 0) (σ := σ1) pk (by omega) pl (by omega)
  have hI2 : InvX sh σ2 ((n, c, m, E, P, x), K, B, s, T) := (h.B a5.B (by omega) (by omega)).B b4.B (by omega) (by omega)
  have hK2 : HKs σ2 102 c m E (ahS lo c) := a3.e b4.1
  have e38 : run sh (d + 12) 38 [mR 101] σ1 = some (none, σ2) := by
    have fo := hfin.1
    simp (disch := first | assumption | omega | (simp (disch := omega) only [wN, w0, w1]; omega)) only [e38_0, e38_1, e38_4, e38_5, e38_8, kl_I, kl_R, kl_N, kl_L, oSm, oNn, Option.bind_some, wN, if_pos, if_neg, nS, tN, t0, w0, w1, w2, w3, w4, w5, wm1, upA_ne, upA_same, if_true, if_false, Bool.false_eq_true, q38, p1, b1]
  have hz : ∀ i, i < 2048 → σ2.2 123 i = 0 := b3
  have L := for_P (7) (fun l => ∀ (σ3 : Mem), (InvX sh σ3 ((n, c, m, E, P, x), K, B, s, T) ∧ HKs σ3 102 c m E (ahS lo c) ∧ tbO (σ3.2 123) n m c E (ahS lo c) (fun y => if y < 4 then σ.1 19 y else σ2.1 120 y) ∧ (∀ y, y < 4 → σ3.1 19 y = σ.1 19 y) ∧ (∀ y, 4 ≤ y → σ3.1 120 y = σ2.1 120 y) ∧ fst1 (fun y => caB (farE E) c E (ahS lo c) y P 0) (7 - l) l = fwO n c E P lo) → End (ev sh (d + 13) 155 24 [some (mR (0)), some (mI (bi lo)), some (mI ((l : Nat) : Int))] [] σ3) (fun r σ' => r = some (mI (opM (fwO n c E P lo))) ∧ InvX sh σ' ((n, c, m, E, P, x), K, B, s, T))) (by
    intro σ3  hp
    replace hp : InvX sh σ3 ((n, c, m, E, P, x), K, B, s, T) ∧ HKs σ3 102 c m E (ahS lo c) ∧ tbO (σ3.2 123) n m c E (ahS lo c) (fun y => if y < 4 then σ.1 19 y else σ2.1 120 y) ∧ (∀ y, y < 4 → σ3.1 19 y = σ.1 19 y) ∧ (∀ y, 4 ≤ y → σ3.1 120 y = σ2.1 120 y) ∧ fst1 (fun y => caB (farE E) c E (ahS lo c) y P 0) (7 - (7)) (7) = fwO n c E P lo := hp
    show End (ev sh (d + 13) 155 24 [some (mR (0)), some (mI (bi lo)), some (mI (((7) : Nat) : Int))] [] σ3) (fun r σ' => r = some (mI (opM (fwO n c E P lo))) ∧ InvX sh σ' ((n, c, m, E, P, x), K, B, s, T))
    have e := hp.2.2.2.2.2
    rw [fst1_e] at e
    rw [e155_24, ← e]
    simp (disch := first | assumption | omega | (simp (disch := omega) only [wN, w0, w1]; omega)) only [e155_0, e155_1, e155_4, e155_7, e155_8, e155_11, e155_12, e155_15, e155_16, e155_19, e155_22, e155_23, e155_25, e155_27, e155_30, e155_31, e155_34, e155_37, e155_38, e155_41, e155_44, e155_47, e155_48, e155_51, e155_52, e155_55, e155_58, e155_59, e155_60, e155_63, e155_66, e155_68, kl_I, kl_R, kl_N, kl_L, oSm, oNn, Option.bind_some, wN, if_pos, if_neg, nS, tN, t0, w0, w1, w2, w3, w4, w5, wm1, upA_ne, upA_same, if_true, if_false, Bool.false_eq_true, w6]
    exact End.of rfl ⟨rfl, hp.1⟩) (fun l hi ih => by
    replace ih : ∀ (σ3 : Mem), (InvX sh σ3 ((n, c, m, E, P, x), K, B, s, T) ∧ HKs σ3 102 c m E (ahS lo c) ∧ tbO (σ3.2 123) n m c E (ahS lo c) (fun y => if y < 4 then σ.1 19 y else σ2.1 120 y) ∧ (∀ y, y < 4 → σ3.1 19 y = σ.1 19 y) ∧ (∀ y, 4 ≤ y → σ3.1 120 y = σ2.1 120 y) ∧ fst1 (fun y => caB (farE E) c E (ahS lo c) y P 0) (7 - (l + 1)) (l + 1) = fwO n c E P lo) → End (ev sh (d + 13) 155 24 [some (mR (0)), some (mI (bi lo)), some (mI (((l + 1) : Nat) : Int))] [] σ3) (fun r σ' => r = some (mI (opM (fwO n c E P lo))) ∧ InvX sh σ' ((n, c, m, E, P, x), K, B, s, T)) := ih
    intro σ3  hp
    replace hp : InvX sh σ3 ((n, c, m, E, P, x), K, B, s, T) ∧ HKs σ3 102 c m E (ahS lo c) ∧ tbO (σ3.2 123) n m c E (ahS lo c) (fun y => if y < 4 then σ.1 19 y else σ2.1 120 y) ∧ (∀ y, y < 4 → σ3.1 19 y = σ.1 19 y) ∧ (∀ y, 4 ≤ y → σ3.1 120 y = σ2.1 120 y) ∧ fst1 (fun y => caB (farE E) c E (ahS lo c) y P 0) (7 - l) l = fwO n c E P lo := hp
    show End (ev sh (d + 13) 155 24 [some (mR (0)), some (mI (bi lo)), some (mI ((l : Nat) : Int))] [] σ3) (fun r σ' => r = some (mI (opM (fwO n c E P lo))) ∧ InvX sh σ' ((n, c, m, E, P, x), K, B, s, T))
    obtain ⟨g1, g2, g3, g4, g5, g6⟩ := hp
    rw [fst1_s hi] at g6
    have hSL3 : HL σ3 18 n P := g1.1.1.2.2.2.2.1
    obtain ⟨r, σ4, i1, rfl, i3, i4, i5, i6⟩ := U27x (d := d + 10) pcr g2 n4' sl (by omega) hSL3
    have hF : HFn σ4 101 n m c E (ahS lo c) (fun y => if y < 4 then σ.1 19 y else σ2.1 120 y) P 0 := by
      refine ⟨i3, i4, fun y hy => ?_, ?_⟩
      · show σ4.1 120 y = if y < 4 then σ.1 19 y else σ2.1 120 y
        rw [i6 y]
        by_cases e : y < 4
        · rw [if_pos e, if_pos e]; exact g4 y e
        · rw [if_neg e, if_neg e]; exact g5 y (by omega)
      · show tbO (σ4.2 123) _ _ _ _ _ _
        rw [i5.2]; exact g3
    obtain ⟨r, σ5, j1, j2, j3, j4⟩ := V39 hfin hk l (d + 7 - l) σ4 P 0 (by omega) hF hP (Nat.two_pow_pos _)
    rw [show d + 7 - l + 5 + l = d + 12 by omega, j2] at j1
    have hI5 : InvX sh σ5 ((n, c, m, E, P, x), K, B, s, T) := (g1.B i5.B (by omega) (by omega)).B j4 (by omega) (by omega)
    rw [e155_24]
    cases hcb : caB (farE E) c E (ahS lo c) l P 0 with
    | true =>
      rw [hcb] at j1
      have j1 : run sh (d + 12) 39 [mR 101, mI (l : Int)] σ4 = some (some (mI 1), σ5) := j1
      rw [hcb, if_pos rfl] at g6
      rw [← g6]
      simp (disch := first | assumption | omega | (simp (disch := omega) only [wN, w0, w1]; omega)) only [e155_0, e155_1, e155_4, e155_7, e155_8, e155_11, e155_12, e155_15, e155_16, e155_19, e155_22, e155_23, e155_25, e155_27, e155_30, e155_31, e155_34, e155_37, e155_38, e155_41, e155_44, e155_47, e155_48, e155_51, e155_52, e155_55, e155_58, e155_59, e155_60, e155_63, e155_66, e155_68, kl_I, kl_R, kl_N, kl_L, oSm, oNn, Option.bind_some, wN, if_pos, if_neg, nS, tN, t0, w0, w1, w2, w3, w4, w5, wm1, upA_ne, upA_same, if_true, if_false, Bool.false_eq_true, w6, s0, s13, u3, p0, i1, j1]
      exact End.of rfl ⟨rfl, hI5⟩
    | false =>
      rw [hcb] at j1
      have j1 : run sh (d + 12) 39 [mR 101, mI (l : Int)] σ4 = some (some (mI 0), σ5) := j1
      rw [hcb, if_neg (by simp)] at g6
      obtain ⟨q1', q2', q3', q4'⟩ := j3 hcb
      simp (disch := first | assumption | omega | (simp (disch := omega) only [wN, w0, w1]; omega)) only [e155_0, e155_1, e155_4, e155_7, e155_8, e155_11, e155_12, e155_15, e155_16, e155_19, e155_22, e155_23, e155_25, e155_27, e155_30, e155_31, e155_34, e155_37, e155_38, e155_41, e155_44, e155_47, e155_48, e155_51, e155_52, e155_55, e155_58, e155_59, e155_60, e155_63, e155_66, e155_68, kl_I, kl_R, kl_N, kl_L, oSm, oNn, Option.bind_some, wN, if_pos, if_neg, nS, tN, t0, w0, w1, w2, w3, w4, w5, wm1, upA_ne, upA_same, if_true, if_false, Bool.false_eq_true, w6, s0, s13, u3, p0, i1, j1]
      refine ih _ ⟨hI5, q1', q4', fun y hy => ?_, fun y hy => ?_, g6⟩
      · rw [(j4 19 (by omega)).1, i5.1 19 (by omega)]; exact g4 y hy
      · have := q3' y (by omega)
        simp only [show ¬ y < 4 by omega, if_false] at this
        exact this) 0 (Nat.zero_le _)
  simp (disch := first | assumption | omega | (simp (disch := omega) only [wN, w0, w1]; omega)) only [e155_0, e155_1, e155_4, e155_7, e155_8, e155_11, e155_12, e155_15, e155_16, e155_19, e155_22, e155_23, e155_25, e155_27, e155_30, e155_31, e155_34, e155_37, e155_38, e155_41, e155_44, e155_47, e155_48, e155_51, e155_52, e155_55, e155_58, e155_59, e155_60, e155_63, e155_66, e155_68, kl_I, kl_R, kl_N, kl_L, oSm, oNn, Option.bind_some, wN, if_pos, if_neg, nS, tN, t0, w0, w1, w2, w3, w4, w5, wm1, upA_ne, upA_same, if_true, if_false, Bool.false_eq_true, q155, s0, s13, p0, a1, e38]
  refine L σ2 ⟨hI2, hK2, fun i hi => Or.inl (hz i hi), fun y hy => ?_, fun y hy => rfl, rfl⟩
  rw [b4.1, a5.1 19 (by omega)]
theorem X153 (hX : XS sh) (h : InvX sh σ a) : End (run sh (d + 14) 153 [mR 0] σ) (fun r σ' => r = some (mI (aFewest a)) ∧ InvX sh σ' a) := by
  have e142 := X142 (d := d + 12) hX h
  have ho := hX.1
  unfold aFewest
  by_cases h3 : a.1.2.2.1 < a.1.1
  · rw [if_pos h3] at e142 ⊢
    simp (disch := first | assumption | omega | (simp (disch := omega) only [wN, w0, w1]; omega)) only [e153_0, e153_1, e153_4, e153_7, e153_9, e153_12, e153_13, e153_14, e153_17, kl_I, kl_R, kl_N, kl_L, oSm, oNn, Option.bind_some, wN, if_pos, if_neg, nS, tN, t0, w0, w1, w2, w3, w4, w5, wm1, upA_ne, upA_same, if_true, if_false, Bool.false_eq_true, q153, e142]
    exact End.of rfl ⟨rfl, h⟩
  · rw [if_neg h3] at e142 ⊢
    obtain ⟨r, σ1, a1, a2, a3⟩ := X155 (d := d) (lo := false) hX h (by omega)
    have a1 : run sh (d + 13) 155 [mR 0, mI 0] σ = some (r, σ1) := a1
    rw [a2] at a1
    simp (disch := first | assumption | omega | (simp (disch := omega) only [wN, w0, w1]; omega)) only [e153_0, e153_1, e153_4, e153_7, e153_9, e153_12, e153_13, e153_14, e153_17, kl_I, kl_R, kl_N, kl_L, oSm, oNn, Option.bind_some, wN, if_pos, if_neg, nS, tN, t0, w0, w1, w2, w3, w4, w5, wm1, upA_ne, upA_same, if_true, if_false, Bool.false_eq_true, q153, e142, a1]
    exact End.of rfl ⟨rfl, a3⟩
end XM

