/-! ===== routes ===== -/
def lkB (z : Int) : Bool := decide ((0 ≤ z ∧ z ≤ 5) ∨ (10 ≤ z ∧ z ≤ 15))
/-- the route by a look -/
def rtF (n : Nat) (c : List Gt) (m : Nat) (E : List Ed) (P : Nat → Nat) (z : Int) : RS × Bool := ruR (farE E) c E (ahS (decide (10 ≤ z)) c) (if 10 ≤ z then z - 10 else z).toNat 41 (x0R P)
def rtA (a : AX) (z : Int) : RS × Bool := rtF a.1.1 a.1.2.1 a.1.2.2.1 a.1.2.2.2.1 a.1.2.2.2.2.1 z
def stL (x : RS) : List Gt := x.2.1.2.2.map Prod.fst
def aRoute (a : AX) (z w : Int) : Int :=
  if lkB z = false ∨ (¬(10 ≤ w ∧ w < 10 + a.1.1) ∧ (w < 0 ∨ 2 < w)) then -1 else if a.1.2.2.1 < a.1.1 then -3 else if (rtA a z).2 = false then -6
  else if w = 0 then ((rtA a z).1.2.2 : Int) else if w = 1 then ((stL (rtA a z).1).length : Int) else if w = 2 then (mxx (enS false (fun _ => 1) (stL (rtA a z).1)) (stL (rtA a z).1).length : Int) else ((rtA a z).1.1 (w - 10).toNat : Int)
def aRouted (a : AX) (z i w : Int) : Int :=
  if lkB z = false ∨ i < 0 ∨ w < 0 ∨ 4 < w then -1 else if a.1.2.2.1 < a.1.1 then -3 else if (rtA a z).2 = false then -6 else if ((stL (rtA a z).1).length : Int) ≤ i then -4
  else if w = 4 then bi (sA (rtA a z).1.2.1.2.2 i.toNat).2 else paS (gA (stL (rtA a z).1) i.toNat) w.toNat
/-- of the first j looks: the fewest swaps, and the look -/
def beL (a : AX) (f : Nat) : Nat → Int × Int
  | 0 => (1000000000, -2)
  | j + 1 => if (rtA a ((f + j : Nat) : Int)).2 = true ∧ ((rtA a ((f + j : Nat) : Int)).1.2.2 : Int) < (beL a f j).1 then (((rtA a ((f + j : Nat) : Int)).1.2.2 : Int), ((f + j : Nat) : Int)) else beL a f j
def aBest (a : AX) (w : Int) : Int :=
  if w < 0 ∨ 3 < w then -1 else if a.1.2.2.1 < a.1.1 then -3
  else if (beL a (if w < 2 then 0 else 10) 6).2 = -2 ∨ w % 2 = 0 then (beL a (if w < 2 then 0 else 10) 6).2 else (beL a (if w < 2 then 0 else 10) 6).1
def aLasts (a : AX) (w z : Int) : Int :=
  if w = 0 ∨ w = 1 then (mxx (enS (decide (w = 1)) a.2.2.2.2 a.1.2.1) a.1.2.1.length : Int) else if w ≠ 2 ∨ lkB z = false then -1 else if a.1.2.2.1 < a.1.1 then -3 else if (rtA a z).2 = false then -6
  else (mxx (enS false a.2.2.2.2 (stL (rtA a z).1)) (stL (rtA a z).1).length : Int)
theorem okC_map {m : Nat} {S : List Sp} {q : Gt} {b : Bool} (h : okC m (S.map Prod.fst)) (hq : vG m q) : okC m ((S ++ [(q, b)]).map Prod.fst) := by
  rw [List.map_append]
  exact h.app hq
theorem rrA_ok {F : Nat → Nat → Nat} {c : List Gt} {A P : Nat → Nat} {n m : Nat} (hP : okP n m P) (hv : okC n c) {x : Nat × (Nat → Nat) × List Sp} (hx : okC m (x.2.2.map Prod.fst)) : ∀ g, g ≤ c.length → okC m ((rrA F c A P g x).2.2.map Prod.fst)
  | 0, _ => hx
  | g + 1, hg => by
    have ih := rrA_ok (F := F) (A := A) hP hv hx g (by omega)
    rw [rrA]
    split
    · exact okC_map ih (sgP_v hP (hv.at (by omega)))
    · exact ih
theorem ruR_ok {F : Nat → Nat → Nat} {c : List Gt} {E : List Ed} {A : Nat → Nat} {n m look : Nat} (hv : okC n c) (hvE : okE m E) : ∀ t (x : RS), okR n m c x → okC m (stL x) → okC m (stL (ruR F c E A look t x).1)
  | 0, x, _, h => h
  | t + 1, x, hx, h => by
    have h1 : okC m (stL (ddR F c A x)) := rrA_ok hx.1 hv h _ (Nat.le_refl _)
    rw [ruR]
    split
    · exact h1
    · split
      · exact h1
      · rename_i g1 g2
        have hcr := (beS_r (F := F) (c := c) (E := E) (P := (ddR F c A x).1) (w := (ddR F c A x).2.1.2.1) (fr := frR c A (ddR F c A x)) (nx := nxR c A look (ddR F c A x)) (H := plS c (ddR F c A x).1 (frR c A (ddR F c A x)) c.length) E.length).1
        have hcr : chR F c E A look (ddR F c A x) = -1 ∨ ∃ k : Nat, k < E.length ∧ chR F c E A look (ddR F c A x) = (k : Int) := hcr
        rcases hcr with hc | ⟨k, hk, hc⟩
        · exact absurd (Or.inl hc) g2
        · rw [hc, tN]
          have h40 : x.2.2 < 40 := by
            have := hx.2.2.2.1
            rcases Nat.lt_or_ge x.2.2 40 with q | q
            · exact q
            · exact absurd (Or.inr (by omega)) g2
          have hE := hvE.at hk
          exact ruR_ok hv hvE t _ (hx.dd.sw hvE hk h40) (okC_map h1 ⟨by simp, by simp only; omega, fun h => by simp at h, fun h => by simp at h, fun _ => by simp only; omega⟩)
section XJ
variable {sh : Shp} {d : Nat} {σ : Mem} {a : AX} {z w v i : Int}
theorem okR_0 {n m : Nat} {c : List Gt} {P : Nat → Nat} (hP : okP n m P) : okR n m c (x0R P) := by
  refine ⟨hP, Nat.two_pow_pos _, ?_, by show 0 ≤ 40; omega, fun _ _ => Nat.zero_le _, fun _ _ => Nat.zero_le _⟩
  show 0 = pcD 0 c.length + 0
  have : ∀ k, pcD 0 k = 0 := fun k => by
    induction k with
    | zero => rfl
    | succ k ih =>
      show cnt _ k + _ = 0
      unfold pcD at ih
      rw [ih]; simp
  rw [this]
theorem X148 (hz : i32 z) : run sh (d + 1) 148 [mI z] σ = some (some (mI (bi (lkB z))), σ) := by
  have wz := hz.w
  have w10 : wi 10 = 10 := rfl
  have w15 : wi 15 = 15 := rfl
  unfold lkB
  by_cases h1 : z < 0
  · simp (disch := first | assumption | omega | (simp (disch := omega) only [wN, w0, w1]; omega)) only [e148_0, e148_1, e148_4, e148_5, e148_6, e148_9, e148_10, e148_12, e148_15, e148_16, e148_18, e148_21, e148_22, e148_25, e148_26, kl_I, kl_R, kl_N, kl_L, oSm, oNn, Option.bind_some, wN, if_pos, if_neg, nS, tN, t0, w0, w1, w2, w3, w4, w5, wm1, upA_ne, upA_same, if_true, if_false, Bool.false_eq_true, q148, wz, w10]
    rw [decide_eq_false (by omega)]; rfl
  · by_cases h2 : z ≤ 5
    · simp (disch := first | assumption | omega | (simp (disch := omega) only [wN, w0, w1]; omega)) only [e148_0, e148_1, e148_4, e148_5, e148_6, e148_9, e148_10, e148_12, e148_15, e148_16, e148_18, e148_21, e148_22, e148_25, e148_26, kl_I, kl_R, kl_N, kl_L, oSm, oNn, Option.bind_some, wN, if_pos, if_neg, nS, tN, t0, w0, w1, w2, w3, w4, w5, wm1, upA_ne, upA_same, if_true, if_false, Bool.false_eq_true, q148, wz]
      rw [decide_eq_true (by omega)]; rfl
    · by_cases h3 : z < 10
      · simp (disch := first | assumption | omega | (simp (disch := omega) only [wN, w0, w1]; omega)) only [e148_0, e148_1, e148_4, e148_5, e148_6, e148_9, e148_10, e148_12, e148_15, e148_16, e148_18, e148_21, e148_22, e148_25, e148_26, kl_I, kl_R, kl_N, kl_L, oSm, oNn, Option.bind_some, wN, if_pos, if_neg, nS, tN, t0, w0, w1, w2, w3, w4, w5, wm1, upA_ne, upA_same, if_true, if_false, Bool.false_eq_true, q148, wz, w10]
        rw [decide_eq_false (by omega)]; rfl
      · by_cases h4 : z ≤ 15
        · simp (disch := first | assumption | omega | (simp (disch := omega) only [wN, w0, w1]; omega)) only [e148_0, e148_1, e148_4, e148_5, e148_6, e148_9, e148_10, e148_12, e148_15, e148_16, e148_18, e148_21, e148_22, e148_25, e148_26, kl_I, kl_R, kl_N, kl_L, oSm, oNn, Option.bind_some, wN, if_pos, if_neg, nS, tN, t0, w0, w1, w2, w3, w4, w5, wm1, upA_ne, upA_same, if_true, if_false, Bool.false_eq_true, q148, wz, w10, w15]
          rw [decide_eq_true (by omega)]; rfl
        · simp (disch := first | assumption | omega | (simp (disch := omega) only [wN, w0, w1]; omega)) only [e148_0, e148_1, e148_4, e148_5, e148_6, e148_9, e148_10, e148_12, e148_15, e148_16, e148_18, e148_21, e148_22, e148_25, e148_26, kl_I, kl_R, kl_N, kl_L, oSm, oNn, Option.bind_some, wN, if_pos, if_neg, nS, tN, t0, w0, w1, w2, w3, w4, w5, wm1, upA_ne, upA_same, if_true, if_false, Bool.false_eq_true, q148, wz, w10, w15]
          rw [decide_eq_false (by omega)]; rfl
def poR (σ' : Mem) (a : AX) (z : Int) : Prop := ¬ a.1.2.2.1 < a.1.1 → (rtA a z).2 = true → HRx σ' 70 a.1.1 a.1.2.2.1 a.1.2.1 a.1.2.2.2.1 (ahS (decide (10 ≤ z)) a.1.2.1) (rtA a z).1 ∧ okR a.1.1 a.1.2.2.1 a.1.2.1 (rtA a z).1 ∧ okC a.1.2.2.1 (stL (rtA a z).1)
def frR0 (a : AX) (z : Int) : Int := if a.1.2.2.1 < a.1.1 then -3 else if (rtA a z).2 = true then 0 else -6
theorem X149 (hX : XS sh) (h : InvX sh σ a) (hz : i32 z) (hlk : lkB z = true) : End (run sh (d + 6) 149 [mR 0, mI z] σ) (fun r σ' => r = some (mI (frR0 a z)) ∧ InvX sh σ' a ∧ poR σ' a z) := by
  have e142 := X142 (d := d + 4) hX h
  obtain ⟨ho, s0, s1, s3, s4, s5, s6, s7, s8, s9, s10, s11, s12, s13, hnow, hkep, htap, k43, l43, hspg, hspb, htri, hrow, hcol, hkc, k69, l69, hrou, hfin, hsh, hR⟩ := id hX
  obtain ⟨so, u1, u2, u3, sg, sb, sl⟩ := id hnow
  have sgo := sg.1
  have sbo := sb.1
  have slo := sl.1
  have tpo := htap.1
  have spgo := hspg.1
  have spbo := hspb.1
  have trio := htri.1
  have rowo := hrow.1
  have colo := hcol.1
  have kco := hkc.1
  have rouo := hrou.1
  have fino := hfin.1
  have kpo := hkep.1
  obtain ⟨-, p0, p1, p2, p3, pcr, pgl, -, -, -, -, -⟩ := id hrou
  have pcro := pcr.1
  obtain ⟨⟨n, c, m, E, P, x⟩, K, B, s, T⟩ := a
  obtain ⟨⟨hS, hoS⟩, hik, hKp, hTp, h140, hTm, hT1⟩ := id h
  replace hS : HS σ 1 n c m E P (x : Int) := hS
  replace hoS : okZ n c m E P x := hoS
  replace hTp : HP σ 41 B s := hTp
  replace h140 : s ≤ 140 := h140
  replace hTm : HT sh σ 43 T := hTm
  replace hik : σ.1 0 2 = bi K.isSome := hik
  obtain ⟨hS0, hSG, hSB, hSF, hSL, hSx⟩ := id hS
  obtain ⟨n1, n4', c30, hv, m2, m5, E10, hvE, hPk, x16⟩ := id hoS
  have wz := hz.w
  have w10 : wi 10 = 10 := rfl
  replace e142 : run sh (d + 5) 142 [mR 0] σ = some (some (mI (if m < n then 1 else 0)), σ) := e142
  unfold lkB at hlk
  rw [decide_eq_true_eq] at hlk
  show End _ (fun r σ' => r = some (mI (if m < n then -3 else if (rtF n c m E P z).2 = true then 0 else -6)) ∧ InvX sh σ' ((n, c, m, E, P, x), K, B, s, T) ∧ (¬ m < n → (rtF n c m E P z).2 = true → HRx σ' 70 n m c E (ahS (decide (10 ≤ z)) c) (rtF n c m E P z).1 ∧ okR n m c (rtF n c m E P z).1 ∧ okC m (stL (rtF n c m E P z).1)))
  by_cases h3 : m < n
  · rw [if_pos h3] at e142 ⊢
    simp (disch := first | assumption | omega | (simp (disch := omega) only [wN, w0, w1]; omega)) only [e149_0, e149_1, e149_4, e149_7, e149_9, e149_10, e149_11, e149_13, e149_16, e149_17, e149_20, e149_21, e149_22, e149_23, e149_26, e149_29, e149_30, e149_33, e149_34, e149_37, e149_38, e149_41, e149_42, e149_45, e149_46, e149_48, e149_49, e149_52, e149_53, e149_56, e149_59, e149_60, e149_63, e149_65, kl_I, kl_R, kl_N, kl_L, oSm, oNn, Option.bind_some, wN, if_pos, if_neg, nS, tN, t0, w0, w1, w2, w3, w4, w5, wm1, upA_ne, upA_same, if_true, if_false, Bool.false_eq_true, q149, e142]
    exact End.of rfl ⟨rfl, h, fun q => absurd h3 q⟩
  · rw [if_neg h3] at e142 ⊢
    have hP := hPk (by omega)
    have hk : okK n m c E := ⟨n4', m5, E10, c30, hv, hvE⟩
    have main : ∀ (lo : Bool) (k : Nat), k ≤ 5 → End (run sh (d + 5) 26 [mR 71, mR 1, mI (bi lo)] σ) (fun r σ1 => r = none ∧ InvX sh σ1 ((n, c, m, E, P, x), K, B, s, T) ∧ End (run sh (d + 5) 86 [mR 70, mI (k : Int)] σ1) (fun r σ' => r = some (mI (bi (ruR (farE E) c E (ahS lo c) k 41 (x0R P)).2)) ∧ ((ruR (farE E) c E (ahS lo c) k 41 (x0R P)).2 = true → HRx σ' 70 n m c E (ahS lo c) (ruR (farE E) c E (ahS lo c) k 41 (x0R P)).1 ∧ okR n m c (ruR (farE E) c E (ahS lo c) k 41 (x0R P)).1 ∧ okC m (stL (ruR (farE E) c E (ahS lo c) k 41 (x0R P)).1)) ∧ InvX sh σ' ((n, c, m, E, P, x), K, B, s, T))) := by
      intro lo k hk5
      obtain ⟨r, σ1, a1, rfl, a3, a4, a5⟩ := U26 (d := d) (lo := lo) pcr hnow (by omega) hS hk c30 (by omega)
      have hI1 := h.B a5.B (by omega) (by omega)
      refine End.of a1 ⟨rfl, hI1, ?_⟩
      obtain ⟨r, σ2, b1, b2, b3, b4⟩ := Z86 (d := d) (look := k) hrou a3 a4 hk hP hk5
      refine End.of b1 ⟨b2, fun q => ⟨(b3 q).1, (b3 q).2, ruR_ok hv hvE 41 _ (okR_0 hP) (fun q hq => by simp [stL, x0R] at hq)⟩, hI1.B b4.B (by omega) (by omega)⟩
    by_cases h10 : 10 ≤ z
    · obtain ⟨k, hk1⟩ : ∃ k : Nat, z - 10 = (k : Int) := ⟨(z - 10).toNat, by omega⟩
      obtain ⟨r, σ1, a1, rfl, a3, r2, σ2, b1, b2, b3, b4⟩ := main true k (by omega)
      have er : rtF n c m E P z = ruR (farE E) c E (ahS true c) k 41 (x0R P) := by unfold rtF; rw [decide_eq_true h10, if_pos h10, hk1, tN]
      rw [decide_eq_true h10]
      rw [er]
      rw [b2] at b1
      have a1 : run sh (d + 5) 26 [mR 71, mR 1, mI 1] σ = some (none, σ1) := a1
      generalize ruR (farE E) c E (ahS true c) k 41 (x0R P) = R at b1 b3 ⊢
      cases hR2 : R.2 with
      | true =>
        rw [hR2] at b1
        have b1 : run sh (d + 5) 86 [mR 70, mI (k : Int)] σ1 = some (some (mI 1), σ2) := b1
        simp (disch := first | assumption | omega | (simp (disch := omega) only [wN, w0, w1]; omega)) only [e149_0, e149_1, e149_4, e149_7, e149_9, e149_10, e149_11, e149_13, e149_16, e149_17, e149_20, e149_21, e149_22, e149_23, e149_26, e149_29, e149_30, e149_33, e149_34, e149_37, e149_38, e149_41, e149_42, e149_45, e149_46, e149_48, e149_49, e149_52, e149_53, e149_56, e149_59, e149_60, e149_63, e149_65, kl_I, kl_R, kl_N, kl_L, oSm, oNn, Option.bind_some, wN, if_pos, if_neg, nS, tN, t0, w0, w1, w2, w3, w4, w5, wm1, upA_ne, upA_same, if_true, if_false, Bool.false_eq_true, q149, e142, wz, w10, s0, s12, p0, a1, hk1, b1]
        exact End.of rfl ⟨rfl, b4, fun _ _ => b3 hR2⟩
      | false =>
        rw [hR2] at b1
        have b1 : run sh (d + 5) 86 [mR 70, mI (k : Int)] σ1 = some (some (mI 0), σ2) := b1
        simp (disch := first | assumption | omega | (simp (disch := omega) only [wN, w0, w1]; omega)) only [e149_0, e149_1, e149_4, e149_7, e149_9, e149_10, e149_11, e149_13, e149_16, e149_17, e149_20, e149_21, e149_22, e149_23, e149_26, e149_29, e149_30, e149_33, e149_34, e149_37, e149_38, e149_41, e149_42, e149_45, e149_46, e149_48, e149_49, e149_52, e149_53, e149_56, e149_59, e149_60, e149_63, e149_65, kl_I, kl_R, kl_N, kl_L, oSm, oNn, Option.bind_some, wN, if_pos, if_neg, nS, tN, t0, w0, w1, w2, w3, w4, w5, wm1, upA_ne, upA_same, if_true, if_false, Bool.false_eq_true, q149, e142, wz, w10, s0, s12, p0, a1, hk1, b1]
        exact End.of rfl ⟨rfl, b4, fun _ q => by first | exact False.elim q | (rw [hR2] at q; cases q)⟩
    · obtain ⟨k, rfl⟩ : ∃ k : Nat, z = (k : Int) := ⟨z.toNat, by omega⟩
      obtain ⟨r, σ1, a1, rfl, a3, r2, σ2, b1, b2, b3, b4⟩ := main false k (by omega)
      have er : rtF n c m E P (k : Int) = ruR (farE E) c E (ahS false c) k 41 (x0R P) := by unfold rtF; rw [decide_eq_false h10, if_neg h10, tN]
      rw [decide_eq_false h10]
      rw [er]
      rw [b2] at b1
      have a1 : run sh (d + 5) 26 [mR 71, mR 1, mI 0] σ = some (none, σ1) := a1
      generalize ruR (farE E) c E (ahS false c) k 41 (x0R P) = R at b1 b3 ⊢
      cases hR2 : R.2 with
      | true =>
        rw [hR2] at b1
        have b1 : run sh (d + 5) 86 [mR 70, mI (k : Int)] σ1 = some (some (mI 1), σ2) := b1
        simp (disch := first | assumption | omega | (simp (disch := omega) only [wN, w0, w1]; omega)) only [e149_0, e149_1, e149_4, e149_7, e149_9, e149_10, e149_11, e149_13, e149_16, e149_17, e149_20, e149_21, e149_22, e149_23, e149_26, e149_29, e149_30, e149_33, e149_34, e149_37, e149_38, e149_41, e149_42, e149_45, e149_46, e149_48, e149_49, e149_52, e149_53, e149_56, e149_59, e149_60, e149_63, e149_65, kl_I, kl_R, kl_N, kl_L, oSm, oNn, Option.bind_some, wN, if_pos, if_neg, nS, tN, t0, w0, w1, w2, w3, w4, w5, wm1, upA_ne, upA_same, if_true, if_false, Bool.false_eq_true, q149, e142, wz, w10, s0, s12, p0, a1, b1]
        exact End.of rfl ⟨rfl, b4, fun _ _ => b3 hR2⟩
      | false =>
        rw [hR2] at b1
        have b1 : run sh (d + 5) 86 [mR 70, mI (k : Int)] σ1 = some (some (mI 0), σ2) := b1
        simp (disch := first | assumption | omega | (simp (disch := omega) only [wN, w0, w1]; omega)) only [e149_0, e149_1, e149_4, e149_7, e149_9, e149_10, e149_11, e149_13, e149_16, e149_17, e149_20, e149_21, e149_22, e149_23, e149_26, e149_29, e149_30, e149_33, e149_34, e149_37, e149_38, e149_41, e149_42, e149_45, e149_46, e149_48, e149_49, e149_52, e149_53, e149_56, e149_59, e149_60, e149_63, e149_65, kl_I, kl_R, kl_N, kl_L, oSm, oNn, Option.bind_some, wN, if_pos, if_neg, nS, tN, t0, w0, w1, w2, w3, w4, w5, wm1, upA_ne, upA_same, if_true, if_false, Bool.false_eq_true, q149, e142, wz, w10, s0, s12, p0, a1, b1]
        exact End.of rfl ⟨rfl, b4, fun _ q => by first | exact False.elim q | (rw [hR2] at q; cases q)⟩
end XJ

