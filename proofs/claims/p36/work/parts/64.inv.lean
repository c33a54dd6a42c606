/-! ===== the object: what it holds ===== -/
abbrev SB : Type := Nat × List Gt × Nat × List Ed × (Nat → Nat) × Nat
abbrev AX : Type := SB × Option SB × (Nat → Nat) × Nat × (Nat → Nat)
def okZ (n : Nat) (c : List Gt) (m : Nat) (E : List Ed) (P : Nat → Nat) (x : Nat) : Prop := 1 ≤ n ∧ n ≤ 4 ∧ c.length ≤ 30 ∧ okC n c ∧ 2 ≤ m ∧ m ≤ 5 ∧ E.length ≤ 10 ∧ okE m E ∧ (n ≤ m → okP n m P) ∧ x < 65536
/-- where all lies -/
def XS (sh : Shp) : Prop := ob sh 10 14 0 ∧ srf sh 0 0 = 1 ∧ srf sh 0 1 = 21 ∧ srf sh 0 3 = 41 ∧ srf sh 0 4 = 43 ∧ srf sh 0 5 = 44 ∧ srf sh 0 6 = 51 ∧ srf sh 0 7 = 60 ∧ srf sh 0 8 = 63 ∧ srf sh 0 9 = 65 ∧ srf sh 0 10 = 67 ∧ srf sh 0 11 = 69 ∧ srf sh 0 12 = 70 ∧ srf sh 0 13 = 101 ∧
  stS sh 1 30 ∧ stS sh 21 30 ∧ tpS sh 41 ∧ skd sh 43 = 0 ∧ sln sh 43 = 6 ∧ glS sh 44 30 ∧ bdS sh 51 ∧ lyS sh 60 ∧ rwS sh 63 120 ∧ coS sh 65 ∧ coS sh 67 ∧ skd sh 69 = 0 ∧ sln sh 69 = 30 ∧ roS sh 70 ∧ fnS sh 101 ∧ (123 < sh.1 ∧ sh.1 ≤ 1000000) ∧ sh.2.1 = 2
def okB (S : SB) : Prop := okZ S.1 S.2.1 S.2.2.1 S.2.2.2.1 S.2.2.2.2.1 S.2.2.2.2.2
def HSo (σ : Mem) (s : Nat) (S : SB) : Prop := HS σ s S.1 S.2.1 S.2.2.1 S.2.2.2.1 S.2.2.2.2.1 (S.2.2.2.2.2 : Int) ∧ okB S
def InvX (sh : Shp) (σ : Mem) (a : AX) : Prop := HSo σ 1 a.1 ∧ σ.1 0 2 = bi a.2.1.isSome ∧ (∀ S, a.2.1 = some S → HSo σ 21 S) ∧ HP σ 41 a.2.2.1 a.2.2.2.1 ∧ a.2.2.2.1 ≤ 140 ∧ HT sh σ 43 a.2.2.2.2 ∧ HT sh σ 1000000 (fun _ => 1)
theorem HG.k {σ σ' : Mem} {g : Nat} {c : List Gt} (h : HG σ g c) (hk : ∀ a, g ≤ a → a ≤ g + 4 → σ'.1 a = σ.1 a) : HG σ' g c := by
  obtain ⟨h1, h2⟩ := h
  refine ⟨by rw [hk _ (by omega) (by omega)]; exact h1, fun j hj => ?_⟩
  rw [hk _ (by omega) (by omega), hk _ (by omega) (by omega), hk _ (by omega) (by omega), hk _ (by omega) (by omega)]
  exact h2 j hj
theorem HSo.k {σ σ' : Mem} {s : Nat} {S : SB} (h : HSo σ s S) (hk : ∀ a, s ≤ a → a ≤ s + 19 → a ≠ s + 6 → a ≠ s + 7 → σ'.1 a = σ.1 a) : HSo σ' s S := by
  obtain ⟨⟨h0, h1, h2, h3, h4, h5⟩, ho⟩ := h
  refine ⟨⟨?_, h1.k (fun a b1 b2 => hk a (by omega) (by omega) (by omega) (by omega)), ?_, ?_, ?_, ?_⟩, ho⟩
  · rw [hk s (by omega) (by omega) (by omega) (by omega)]; exact h0
  · obtain ⟨a1, a2, a3⟩ := h2
    refine ⟨?_, ?_, fun j hj => ?_⟩
    · rw [hk _ (by omega) (by omega) (by omega) (by omega)]; exact a1
    · rw [hk _ (by omega) (by omega) (by omega) (by omega)]; exact a2
    · rw [hk _ (by omega) (by omega) (by omega) (by omega), hk _ (by omega) (by omega) (by omega) (by omega)]; exact a3 j hj
  · obtain ⟨G, b1, b2⟩ := h3
    refine ⟨G, fun p hp q hq => ?_, b2⟩
    rw [hk _ (by omega) (by omega) (by omega) (by omega)]; exact b1 p hp q hq
  · refine ⟨fun y hy => ?_, fun y hy => ?_⟩
    · rw [hk _ (by omega) (by omega) (by omega) (by omega)]; exact h4.1 y hy
    · rw [hk _ (by omega) (by omega) (by omega) (by omega)]; exact h4.2 y hy
  · rw [hk s (by omega) (by omega) (by omega) (by omega)]; exact h5
theorem HT.k {sh : Shp} {σ σ' : Mem} {t : Nat} {T : Nat → Nat} (h : HT sh σ t T) (hk : σ'.1 t = σ.1 t) : HT sh σ' t T := ⟨h.1, h.2.1, fun k hk2 => by rw [hk]; exact h.2.2 k hk2⟩
theorem HP.k {σ σ' : Mem} {t s : Nat} {B : Nat → Nat} (h : HP σ t B s) (h1 : σ'.1 t = σ.1 t) (h2 : σ'.1 (t + 1) = σ.1 (t + 1)) : HP σ' t B s := ⟨by rw [h1]; exact h.1, fun j hj => by rw [h2]; exact h.2 j hj⟩
theorem InvX.k {sh : Shp} {σ σ' : Mem} {a : AX} (h : InvX sh σ a) (hk : ∀ b, (b ≤ 43 ∧ b ≠ 7 ∧ b ≠ 8) ∨ b = 1000000 → σ'.1 b = σ.1 b) : InvX sh σ' a := by
  obtain ⟨h1, h2, h3, h4, h5, h6, h7⟩ := h
  exact ⟨h1.k (fun b b1 b2 b3 b4 => hk b (by omega)), by rw [hk 0 (by omega)]; exact h2, fun S hS => (h3 S hS).k (fun b b1 b2 b3 b4 => hk b (by omega)), h4.k (hk 41 (by omega)) (hk 42 (by omega)), h5, h6.k (hk 43 (by omega)), h7.k (hk _ (by omega))⟩
theorem InvX.B {sh : Shp} {σ σ' : Mem} {a : AX} {x y : Nat} (h : InvX sh σ a) (hf : frB x y σ σ') (hx : 44 ≤ x) (hy : y < 1000000) : InvX sh σ' a := h.k (fun b hb => (hf b (by omega)).1)
theorem InvX.g {sh : Shp} {σ σ' : Mem} {a : AX} (h : InvX sh σ a) (hf : frI 7 8 σ σ') (hs : 8 < 1000000) : InvX sh σ' a := h.k (fun b hb => hf.1 b (by omega))
/-- the present state changes -/
theorem InvX.now {sh : Shp} {σ σ' : Mem} {a : AX} {S : SB} (h : InvX sh σ a) (hk : ∀ b, b = 0 ∨ (20 < b ∧ b ≤ 43) ∨ b = 1000000 → σ'.1 b = σ.1 b) (hS : HSo σ' 1 S) : InvX sh σ' (S, a.2) := by
  obtain ⟨h1, h2, h3, h4, h5, h6, h7⟩ := h
  exact ⟨hS, by rw [hk 0 (by omega)]; exact h2, fun S hS => (h3 S hS).k (fun b b1 b2 b3 b4 => hk b (by omega)), h4.k (hk 41 (by omega)) (hk 42 (by omega)), h5, h6.k (hk 43 (by omega)), h7.k (hk _ (by omega))⟩
/-- the tape changes -/
theorem InvX.tap {sh : Shp} {σ σ' : Mem} {a : AX} {B : Nat → Nat} {s : Nat} (h : InvX sh σ a) (hk : ∀ b, (b ≤ 40 ∧ b ≠ 7 ∧ b ≠ 8) ∨ b = 43 ∨ b = 1000000 → σ'.1 b = σ.1 b) (hP : HP σ' 41 B s) (hs : s ≤ 140) : InvX sh σ' (a.1, a.2.1, B, s, a.2.2.2.2) := by
  obtain ⟨h1, h2, h3, h4, h5, h6, h7⟩ := h
  exact ⟨h1.k (fun b b1 b2 b3 b4 => hk b (by omega)), by rw [hk 0 (by omega)]; exact h2, fun S hS => (h3 S hS).k (fun b b1 b2 b3 b4 => hk b (by omega)), hP, hs, h6.k (hk 43 (by omega)), h7.k (hk _ (by omega))⟩
def i32 (z : Int) : Prop := -2147483648 ≤ z ∧ z < 2147483648
theorem i32.w {z : Int} (h : i32 z) : wi z = z := wi_id h.1 h.2
theorem wi_sub {z : Int} {k b : Nat} (h : i32 z) (hk : k ≤ 1000) (hb : b ≤ 1000) : (0 ≤ wi (z - k) ∧ wi (z - k) < b) ↔ ((k : Int) ≤ z ∧ z < k + b) := by
  have e : wi (z - k) = if z - (k : Int) < -2147483648 then z - k + 4294967296 else z - k := by
    obtain ⟨h1, h2⟩ := h
    split
    · have e1 : wi (z - (k : Int)) = wi (z - (k : Int) + 4294967296) := by
        unfold wi
        rw [Int32.ofInt_add, show Int32.ofInt 4294967296 = 0 by decide, Int32.add_zero]
      rw [e1]
      exact wi_id (by omega) (by omega)
    · exact wi_id (by omega) (by omega)
  rw [e]
  obtain ⟨h1, h2⟩ := h
  split <;> omega
theorem wi_sub2 {z : Int} {k : Nat} (h : i32 z) (hk : (k : Int) ≤ z) : wi (z - k) = z - k := wi_id (by have := h.1; omega) (by have := h.2; omega)
section XA
variable {sh : Shp} {d : Nat} {σ : Mem} {a : AX} {z w v : Int}
theorem X121 (hX : XS sh) (h : InvX sh σ a) : run sh (d + 1) 121 [mR 0, mI z] σ = some (some (mI (if 0 ≤ wi z ∧ wi z < a.1.1 then 1 else 0)), σ) := by
  obtain ⟨ho, s0, s1, s3, s4, s5, s6, s7, s8, s9, s10, s11, s12, s13, hnow, hkep, htap, k43, l43, hspg, hspb, htri, hrow, hcol, hkc, k69, l69, hrou, hfin, hsh, hR⟩ := id hX
  obtain ⟨so, u1, u2, u3, sg, sb, sl⟩ := id hnow
  have sgo := sg.1
  have sbo := sb.1
  have slo := sl.1
  have tpo := htap.1
  have spgo := hspg.1
  have spbo := hspb.1
  have trio := htri.1
  have rowo := hrow.1
  have colo := hcol.1
  have kco := hkc.1
  have rouo := hrou.1
  have fino := hfin.1
  have kpo := hkep.1
  obtain ⟨⟨n, c, m, E, P, x⟩, K, B, s, T⟩ := a
  obtain ⟨⟨hS, hoS⟩, hik, hKp, hTp, h140, hTm, hT1⟩ := id h
  replace hS : HS σ 1 n c m E P (x : Int) := hS
  replace hoS : okZ n c m E P x := hoS
  replace hTp : HP σ 41 B s := hTp
  replace h140 : s ≤ 140 := h140
  replace hTm : HT sh σ 43 T := hTm
  replace hik : σ.1 0 2 = bi K.isSome := hik
  obtain ⟨hS0, hSG, hSB, hSF, hSL, hSx⟩ := id hS
  obtain ⟨n1, n4', c30, hv, m2, m5, E10, hvE, hPk, x16⟩ := id hoS
  have e : wi (n : Int) = (n : Int) := wN (by omega)
  show _ = some (some (mI (if 0 ≤ wi z ∧ wi z < n then 1 else 0)), σ)
  simp (disch := first | assumption | omega | (simp (disch := omega) only [wN, w0, w1]; omega)) only [e121_0, e121_1, e121_4, e121_5, e121_6, e121_9, e121_12, e121_15, e121_16, e121_19, e121_20, kl_I, kl_R, kl_N, kl_L, oSm, oNn, Option.bind_some, wN, if_pos, if_neg, nS, tN, t0, w0, w1, w2, w3, w4, w5, wm1, upA_ne, upA_same, if_true, if_false, Bool.false_eq_true, q121, s0, hS0, e]
  repeat' split
  all_goals first | rfl | omega
/-! feed -/
def aFeed (a : AX) (z1 z2 z3 z4 z5 : Int) : Int × AX := if 120 < a.2.2.2.1 then (-1, a) else
  ((a.2.2.2.1 + 20 : Nat), (a.1, a.2.1, bzi (bzi (bzi (bzi (bzi a.2.2.1 a.2.2.2.1 z1 4) (a.2.2.2.1 + 4) z2 4) (a.2.2.2.1 + 8) z3 4) (a.2.2.2.1 + 12) z4 4) (a.2.2.2.1 + 16) z5 4, a.2.2.2.1 + 20, a.2.2.2.2))
theorem X114 {z1 z2 z3 z4 z5 : Int} (hX : XS sh) (h : InvX sh σ a) : End (run sh (d + 2) 114 [mR 0, mI z1, mI z2, mI z3, mI z4, mI z5] σ) (fun r σ' => r = some (mI (aFeed a z1 z2 z3 z4 z5).1) ∧ InvX sh σ' (aFeed a z1 z2 z3 z4 z5).2) := by
  obtain ⟨ho, s0, s1, s3, s4, s5, s6, s7, s8, s9, s10, s11, s12, s13, hnow, hkep, htap, k43, l43, hspg, hspb, htri, hrow, hcol, hkc, k69, l69, hrou, hfin, hsh, hR⟩ := id hX
  obtain ⟨so, u1, u2, u3, sg, sb, sl⟩ := id hnow
  have sgo := sg.1
  have sbo := sb.1
  have slo := sl.1
  have tpo := htap.1
  have spgo := hspg.1
  have spbo := hspb.1
  have trio := htri.1
  have rowo := hrow.1
  have colo := hcol.1
  have kco := hkc.1
  have rouo := hrou.1
  have fino := hfin.1
  have kpo := hkep.1
  obtain ⟨⟨n, c, m, E, P, x⟩, K, B, s, T⟩ := a
  obtain ⟨⟨hS, hoS⟩, hik, hKp, hTp, h140, hTm, hT1⟩ := id h
  replace hS : HS σ 1 n c m E P (x : Int) := hS
  replace hoS : okZ n c m E P x := hoS
  replace hTp : HP σ 41 B s := hTp
  replace h140 : s ≤ 140 := h140
  replace hTm : HT sh σ 43 T := hTm
  replace hik : σ.1 0 2 = bi K.isSome := hik
  obtain ⟨hS0, hSG, hSB, hSF, hSL, hSx⟩ := id hS
  obtain ⟨n1, n4', c30, hv, m2, m5, E10, hvE, hPk, x16⟩ := id hoS
  have hl := hTp.1
  have e20 : (s : Int) + 20 = ((s + 20 : Nat) : Int) := rfl
  have w140 : wi 140 = 140 := rfl
  unfold aFeed
  by_cases h1 : 120 < s
  · rw [if_pos h1]
    simp (disch := first | assumption | omega | (simp (disch := omega) only [wN, w0, w1]; omega)) only [e114_0, e114_1, e114_4, e114_7, e114_9, e114_10, e114_13, e114_16, e114_17, e114_18, e114_19, e114_22, e114_23, e114_26, e114_27, e114_30, e114_31, e114_34, e114_35, e114_38, e114_39, e114_42, e114_43, e114_46, e114_48, e114_51, e114_52, e114_55, e114_57, e114_60, e114_61, e114_64, e114_67, kl_I, kl_R, kl_N, kl_L, oSm, oNn, Option.bind_some, wN, if_pos, if_neg, nS, tN, t0, w0, w1, w2, w3, w4, w5, wm1, upA_ne, upA_same, if_true, if_false, Bool.false_eq_true, q114, s3, hl, e20, w140]
    exact End.of rfl ⟨rfl, h⟩
  · rw [if_neg h1]
    obtain ⟨r1, σ1, a1, rfl, p1, f1⟩ := T105 (d := d) (z := z1) htap hTp (by omega)
    obtain ⟨r2, σ2, a2, rfl, p2, f2⟩ := T105 (d := d) (z := z2) htap p1 (by omega)
    obtain ⟨r3, σ3, a3, rfl, p3, f3⟩ := T105 (d := d) (z := z3) htap p2 (by omega)
    obtain ⟨r4, σ4, a4, rfl, p4, f4⟩ := T105 (d := d) (z := z4) htap p3 (by omega)
    obtain ⟨r5, σ5, a5, rfl, p5, f5⟩ := T105 (d := d) (z := z5) htap p4 (by omega)
    have hl5 := p5.1
    simp (disch := first | assumption | omega | (simp (disch := omega) only [wN, w0, w1]; omega)) only [e114_0, e114_1, e114_4, e114_7, e114_9, e114_10, e114_13, e114_16, e114_17, e114_18, e114_19, e114_22, e114_23, e114_26, e114_27, e114_30, e114_31, e114_34, e114_35, e114_38, e114_39, e114_42, e114_43, e114_46, e114_48, e114_51, e114_52, e114_55, e114_57, e114_60, e114_61, e114_64, e114_67, kl_I, kl_R, kl_N, kl_L, oSm, oNn, Option.bind_some, wN, if_pos, if_neg, nS, tN, t0, w0, w1, w2, w3, w4, w5, wm1, upA_ne, upA_same, if_true, if_false, Bool.false_eq_true, q114, s3, hl, e20, w140, a1, a2, a3, a4, a5, hl5]
    exact End.of rfl ⟨rfl, h.tap (fun b hb => by rw [f5.1 b (by omega), f4.1 b (by omega), f3.1 b (by omega), f2.1 b (by omega), f1.1 b (by omega)]) p5 (by omega)⟩
/-! lines -/
def aLines (a : AX) (z : Int) : Int × AX := if z < 1 ∨ 4 < z then (0, a) else (1, ((z.toNat, [], a.1.2.2.1, a.1.2.2.2.1, fun y => y, a.1.2.2.2.2.2), a.2))
theorem okP_id {n m : Nat} (h : n ≤ m) : okP n m (fun y => y) := ⟨fun x hx => by show x < m; omega, fun x y _ _ e => e⟩
theorem X115 (hX : XS sh) (h : InvX sh σ a) (hz : i32 z) : End (run sh (d + 2) 115 [mR 0, mI z] σ) (fun r σ' => r = some (mI (aLines a z).1) ∧ InvX sh σ' (aLines a z).2) := by
  obtain ⟨ho, s0, s1, s3, s4, s5, s6, s7, s8, s9, s10, s11, s12, s13, hnow, hkep, htap, k43, l43, hspg, hspb, htri, hrow, hcol, hkc, k69, l69, hrou, hfin, hsh, hR⟩ := id hX
  obtain ⟨so, u1, u2, u3, sg, sb, sl⟩ := id hnow
  have sgo := sg.1
  have sbo := sb.1
  have slo := sl.1
  have tpo := htap.1
  have spgo := hspg.1
  have spbo := hspb.1
  have trio := htri.1
  have rowo := hrow.1
  have colo := hcol.1
  have kco := hkc.1
  have rouo := hrou.1
  have fino := hfin.1
  have kpo := hkep.1
  obtain ⟨⟨n, c, m, E, P, x⟩, K, B, s, T⟩ := a
  obtain ⟨⟨hS, hoS⟩, hik, hKp, hTp, h140, hTm, hT1⟩ := id h
  replace hS : HS σ 1 n c m E P (x : Int) := hS
  replace hoS : okZ n c m E P x := hoS
  replace hTp : HP σ 41 B s := hTp
  replace h140 : s ≤ 140 := h140
  replace hTm : HT sh σ 43 T := hTm
  replace hik : σ.1 0 2 = bi K.isSome := hik
  obtain ⟨hS0, hSG, hSB, hSF, hSL, hSx⟩ := id hS
  obtain ⟨n1, n4', c30, hv, m2, m5, E10, hvE, hPk, x16⟩ := id hoS
  have hw := hz.w
  unfold aLines
  by_cases h1 : z < 1 ∨ 4 < z
  · rw [if_pos h1]
    rcases h1 with h1 | h1
    · simp (disch := first | assumption | omega | (simp (disch := omega) only [wN, w0, w1]; omega)) only [e115_0, e115_1, e115_2, e115_5, e115_6, e115_7, e115_10, e115_11, e115_12, e115_13, e115_16, e115_17, e115_20, e115_21, e115_24, e115_27, e115_28, e115_31, e115_32, e115_35, e115_38, e115_39, e115_42, e115_43, kl_I, kl_R, kl_N, kl_L, oSm, oNn, Option.bind_some, wN, if_pos, if_neg, nS, tN, t0, w0, w1, w2, w3, w4, w5, wm1, upA_ne, upA_same, if_true, if_false, Bool.false_eq_true, q115, hw]
      exact End.of rfl ⟨rfl, h⟩
    · simp (disch := first | assumption | omega | (simp (disch := omega) only [wN, w0, w1]; omega)) only [e115_0, e115_1, e115_2, e115_5, e115_6, e115_7, e115_10, e115_11, e115_12, e115_13, e115_16, e115_17, e115_20, e115_21, e115_24, e115_27, e115_28, e115_31, e115_32, e115_35, e115_38, e115_39, e115_42, e115_43, kl_I, kl_R, kl_N, kl_L, oSm, oNn, Option.bind_some, wN, if_pos, if_neg, nS, tN, t0, w0, w1, w2, w3, w4, w5, wm1, upA_ne, upA_same, if_true, if_false, Bool.false_eq_true, q115, hw]
      exact End.of rfl ⟨rfl, h⟩
  · rw [if_neg h1]
    obtain ⟨k, rfl⟩ : ∃ k : Nat, z = (k : Int) := ⟨z.toNat, by omega⟩
    have f0 : frI 1 2 σ (upA (upA σ.1 1 (up1 (σ.1 1) 0 (k : Int))) 2 (up1 (σ.1 2) 6 0), σ.2) := ⟨fun b hb => by show upA _ _ _ _ = _; rw [upA_ne (by omega), upA_ne (by omega)], rfl⟩
    obtain ⟨r1, σ1, a1, rfl, p1, f1⟩ := Y74 (d := d) (n := k) (σ := (upA (upA σ.1 1 (up1 (σ.1 1) 0 (k : Int))) 2 (up1 (σ.1 2) 6 0), σ.2)) sl (by omega)
    simp (disch := first | assumption | omega | (simp (disch := omega) only [wN, w0, w1]; omega)) only [e115_0, e115_1, e115_2, e115_5, e115_6, e115_7, e115_10, e115_11, e115_12, e115_13, e115_16, e115_17, e115_20, e115_21, e115_24, e115_27, e115_28, e115_31, e115_32, e115_35, e115_38, e115_39, e115_42, e115_43, kl_I, kl_R, kl_N, kl_L, oSm, oNn, Option.bind_some, wN, if_pos, if_neg, nS, tN, t0, w0, w1, w2, w3, w4, w5, wm1, upA_ne, upA_same, if_true, if_false, Bool.false_eq_true, q115, hw, s0, u1, u3, a1]
    have f2 : frI 1 20 σ σ1 := (f0.w (by omega) (by omega)).tr (f1.w (by omega) (by omega))
    refine End.of rfl ⟨rfl, h.now (fun b hb => f2.1 b (by omega)) ⟨⟨?_, ?_, ?_, ?_, p1, ?_⟩, ?_⟩⟩
    · rw [f1.1 1 (by omega)]
      simp (disch := omega) only [upA_ne, upA_same, up1_same]
    · refine ⟨?_, fun j hj => absurd hj (Nat.not_lt_zero _)⟩
      rw [f1.1 _ (by omega)]
      simp (disch := omega) only [upA_ne, upA_same, up1_same]
      rfl
    · exact (hSB.fr f0 (by omega)).fr f1 (by omega)
    · exact (hSF.fr f0 (by omega)).fr f1 (by omega)
    · rw [f1.1 1 (by omega)]
      simp (disch := omega) only [upA_ne, upA_same, up1_ne]
      exact hSx
    · exact ⟨by show 1 ≤ k; omega, by show k ≤ 4; omega, Nat.zero_le _, fun q hq => by simp at hq, m2, m5, E10, hvE, fun hh => okP_id hh, x16⟩
end XA
