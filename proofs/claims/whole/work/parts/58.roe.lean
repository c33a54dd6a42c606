/-! ===== Router: run ===== -/
theorem rrA_w (F : Nat → Nat → Nat) (c : List Gt) (A P : Nat → Nat) (x : Nat × (Nat → Nat) × List Sp) (p : Nat) : ∀ g, (rrA F c A P g x).2.1 p ≤ x.2.1 p
  | 0 => Nat.le_refl _
  | g + 1 => by
    have ih := rrA_w F c A P x p g
    rw [rrA]
    split
    · simp only
      split
      · exact Nat.zero_le _
      · exact ih
    · exact ih
section ROE
variable {sh : Shp} {d o n m : Nat} {σ : Mem} {c : List Gt} {E : List Ed} {A P : Nat → Nat} {look t : Nat} {x : RS}
theorem rrA_len {F : Nat → Nat → Nat} {x : Nat × (Nat → Nat) × List Sp} (hS : x.2.2.length = pcD x.1 c.length + t) : ∀ g, g ≤ c.length → (rrA F c A P g x).2.2.length = pcD (rrA F c A P g x).1 c.length + t
  | 0, _ => hS
  | g + 1, hg => by
    have ih := rrA_len (F := F) hS g (by omega)
    rw [rrA]
    split
    · rename_i h
      simp only [List.length_append, List.length_cons, List.length_nil, pcD_or (dbB_bit h) c.length (show g < c.length by omega)]
      omega
    · exact ih
theorem okR.dd {F : Nat → Nat → Nat} (h : okR n m c x) : okR n m c (ddR F c A x) := by
  obtain ⟨h1, h2, h3, h4, h5, h6⟩ := h
  refine ⟨h1, ?_, rrA_len h3 _ (Nat.le_refl _), h4, fun p hp => Nat.le_trans (rrA_w _ _ _ _ _ p _) (h5 p hp), fun p hp => Nat.le_trans (rrA_w _ _ _ _ _ p _) (h6 p hp)⟩
  show (rrA F c A x.1 c.length x.2.1).1 < _
  rw [rrA_D]
  exact daD_lt h2 _ (Nat.le_refl _)
theorem okR.sw {e : Nat} (h : okR n m c x) (hv : okE m E) (he : e < E.length) (h40 : x.2.2 < 40) : okR n m c (swR E e x) := by
  obtain ⟨h1, h2, h3, h4, h5, h6⟩ := h
  have hE := hv.at he
  refine ⟨h1.sw (by omega) (by omega), h2, ?_, by show x.2.2 + 1 ≤ 40; omega, fun p hp => ?_, fun p hp => ?_⟩
  · show (x.2.1.2.2 ++ _).length = pcD x.2.1.1 c.length + (x.2.2 + 1)
    rw [List.length_append, h3]
    simp only [List.length_cons, List.length_nil]
    omega
  · show upw (upw x.2.1.2.1 _) _ p ≤ 40
    have a1 := h6 p hp
    unfold upw
    repeat' split
    all_goals omega
  · show upw (upw x.2.1.2.1 _) _ p ≤ x.2.2 + 1
    have a1 := h6 p hp
    unfold upw
    repeat' split
    all_goals omega
theorem Z91 {e : Nat} (hs : roS sh o) (hR : HRx σ o n m c E A x) (hk : okK n m c E) (hx : okR n m c x) (he : e < E.length) (h40 : x.2.2 < 40) : End (run sh (d + 4) 91 [mR o, mI (e : Int)] σ) (fun r σ' => r = none ∧ HRx σ' o n m c E A (swR E e x) ∧ frI o (o + 30) σ σ') := by
  obtain ⟨ho, r0, r1, r2, r3, hcr, hgl, k1, l1, k2, l2, hw2⟩ := id hs
  obtain ⟨hco, c0, c1, c2, c3, hcg, hcB, hcL, ck, cl, cw⟩ := id hcr
  obtain ⟨hn, hm, hE, h30, hv, hvE⟩ := id hk
  obtain ⟨hP, hD, hSl, h40', hw40, -⟩ := id hx
  obtain ⟨⟨hK, hM, hWe, hSt⟩, hnsw⟩ := id hR
  have hbo := hcB.1
  have h5 := hvE.at he
  have hpc := pcD_le x.2.1.1 c.length
  have n3 := N3 (d := d + 1) hcB hK.2.1 hE he
  have n4' := N4 (d := d + 1) hcB hK.2.1 hE he
  have hq : vG m (5, (eA E e).1, ((eA E e).2 : Int)) := ⟨by simp, by simp only; omega, fun h => by simp at h, fun h => by simp at h, fun _ => by simp only; omega⟩
  obtain ⟨ra, σ1, a1, rfl, a3, a4⟩ := Z90 (d := d + 1) (b := true) (q := (5, (eA E e).1, ((eA E e).2 : Int))) hs hSt (by omega) hm hq
  have a1 : run sh (d + 3) 90 [mR o, mI 5, mI ((eA E e).1 : Int), mI ((eA E e).2 : Int), mI 1] σ = some (none, σ1) := a1
  have hK1 := hK.fr a4 (by omega)
  have hM1 : HKm σ1 (o + 1) n x.1 x.2.1.1 := ⟨hM.1.fr a4 (by omega), by rw [a4.1 _ (by omega)]; exact hM.2⟩
  obtain ⟨rb, σ2, b1, rfl, b3, b4, b5⟩ := U36 (d := d) hcr hK1 hM1 hk hP he
  have hW2 : HWe σ2 o x.2.1.2.1 := (hWe.fr a4 (by omega)).fr b5 (by omega)
  obtain ⟨rc, σ3, g1, rfl, g3, g4⟩ := Z92 (d := d + 2) (p := (eA E e).1) hs hW2 (by omega)
  obtain ⟨rd, σ4, i1, rfl, i3, i4⟩ := Z92 (d := d + 2) (p := (eA E e).2) hs g3 (by omega)
  have hn4 : σ4.1 o 4 = (x.2.2 : Int) := by rw [i4.1 _ (by omega), g4.1 _ (by omega), b5.1 _ (by omega), a4.1 _ (by omega)]; exact hnsw
  have f5 : frI o o σ4 (upA σ4.1 o (up1 (σ4.1 o) 4 ((x.2.2 + 1 : Nat) : Int)), σ4.2) := frI.up (by omega)
  simp (disch := first | assumption | omega | (simp (disch := omega) only [wN, w0, w1]; omega)) only [e91_0, e91_1, e91_4, e91_7, e91_8, e91_11, e91_12, e91_13, e91_16, e91_19, e91_20, e91_23, e91_24, e91_25, e91_26, e91_27, e91_28, e91_29, e91_32, e91_33, e91_36, e91_37, e91_40, e91_41, e91_42, e91_45, e91_46, e91_47, e91_50, e91_51I, e91_51R, e91_52, e91_55, e91_56, e91_57, e91_60, kl_I, kl_R, kl_N, kl_L, oSm, oNn, Option.bind_some, wN, if_pos, if_neg, nS, tN, t0, w0, w1, w2, w3, w4, w5, wm1, upA_ne, upA_same, if_true, if_false, Bool.false_eq_true, q91, r0, c1, n3, n4', a1, b1, g1, i1, hn4]
  have hM2 : HKm σ2 (o + 1) n (swP (eA E e).1 (eA E e).2 x.1) x.2.1.1 := b4
  refine End.of rfl ⟨rfl, ⟨⟨?_, ?_, ?_, ?_⟩, ?_⟩, ?_⟩
  · exact ((b3.fr g4 (by omega)).fr i4 (by omega)).fr f5 (by omega)
  · exact ⟨((hM2.1.fr g4 (by omega)).fr i4 (by omega)).fr f5 (by omega), by rw [f5.1 _ (by omega), i4.1 _ (by omega), g4.1 _ (by omega)]; exact hM2.2⟩
  · exact i3.fr f5 (by omega)
  · exact (((a3.fr b5 (by omega)).fr g4 (by omega)).fr i4 (by omega)).fr f5 (by omega)
  · show upA _ _ _ _ _ = _
    rw [upA_same, up1_same]; rfl
  · exact ((((a4.w (by omega) (by omega)).tr (b5.w (by omega) (by omega))).tr (g4.w (by omega) (by omega))).tr (i4.w (by omega) (by omega))).tr (f5.w (by omega) (by omega))
/-- where a route begins -/
def x0R (P : Nat → Nat) : RS := (P, (0, fun _ => 0, []), 0)
theorem Z86 (hs : roS sh o) (hK : HKs σ (o + 1) c m E A) (hM : HKm σ (o + 1) n P 0) (hk : okK n m c E) (hP : okP n m P) (hlook : look ≤ 5) : End (run sh (d + 5) 86 [mR o, mI (look : Int)] σ) (fun r σ' => r = some (mI (bi (ruR (farE E) c E A look 41 (x0R P)).2)) ∧ ((ruR (farE E) c E A look 41 (x0R P)).2 = true → HRx σ' o n m c E A (ruR (farE E) c E A look 41 (x0R P)).1 ∧ okR n m c (ruR (farE E) c E A look 41 (x0R P)).1) ∧ frI o (o + 30) σ σ') := by
  obtain ⟨ho, r0, r1, r2, r3, hcr, hgl, k1, l1, k2, l2, hw2⟩ := id hs
  have hco := hcr.1
  have hgo := hgl.1
  obtain ⟨hn, hm, hE, h30, hv, hvE⟩ := id hk
  have hA : ∀ g, g < c.length → A g < 2 ^ g := fun g hg => (hK.2.2.2 g hg).2
  have w40 : wi 40 = 40 := rfl
  have L := for_P (41) (fun i => ∀ (σ1 : Mem) (v3 : Option MV), ((∃ x : RS, HRx σ1 o n m c E A x ∧ okR n m c x ∧ ruR (farE E) c E A look (41 - i) x = ruR (farE E) c E A look 41 (x0R P)) ∧ frI o (o + 30) σ σ1) → End (ev sh (d + 5) 86 23 [some (mR (o)), some (mI ((look : Nat) : Int)), some (mI ((i : Nat) : Int)), v3] [] σ1) (fun r σ' => r = some (mI (bi (ruR (farE E) c E A look 41 (x0R P)).2)) ∧ ((ruR (farE E) c E A look 41 (x0R P)).2 = true → HRx σ' o n m c E A (ruR (farE E) c E A look 41 (x0R P)).1 ∧ okR n m c (ruR (farE E) c E A look 41 (x0R P)).1) ∧ frI o (o + 30) σ σ')) (by
    intro σ1 v3 hp
    replace hp : (∃ x : RS, HRx σ1 o n m c E A x ∧ okR n m c x ∧ ruR (farE E) c E A look (41 - (41)) x = ruR (farE E) c E A look 41 (x0R P)) ∧ frI o (o + 30) σ σ1 := hp
    show End (ev sh (d + 5) 86 23 [some (mR (o)), some (mI ((look : Nat) : Int)), some (mI (((41) : Nat) : Int)), v3] [] σ1) (fun r σ' => r = some (mI (bi (ruR (farE E) c E A look 41 (x0R P)).2)) ∧ ((ruR (farE E) c E A look 41 (x0R P)).2 = true → HRx σ' o n m c E A (ruR (farE E) c E A look 41 (x0R P)).1 ∧ okR n m c (ruR (farE E) c E A look 41 (x0R P)).1) ∧ frI o (o + 30) σ σ')
    obtain ⟨⟨x, h1, h2, h3⟩, hf⟩ := hp
    rw [Nat.sub_self, ruR] at h3
    rw [e86_23, ← h3]
    simp (disch := first | assumption | omega | (simp (disch := omega) only [wN, w0, w1]; omega)) only [e86_0, e86_1, e86_4, e86_5, e86_8, e86_9, e86_10, e86_13, e86_14, e86_17, e86_18, e86_21, e86_22, e86_24, e86_26, e86_29, e86_30, e86_33, e86_34, e86_37, e86_40, e86_43, e86_44, e86_45, e86_46, e86_47, e86_50, e86_51, e86_52, e86_53, e86_56, e86_57, e86_60, e86_62, e86_65, e86_66, e86_67, e86_68, e86_69, e86_72, e86_75, e86_78, e86_79, kl_I, kl_R, kl_N, kl_L, oSm, oNn, Option.bind_some, wN, if_pos, if_neg, nS, tN, t0, w0, w1, w2, w3, w4, w5, wm1, upA_ne, upA_same, if_true, if_false, Bool.false_eq_true, w40]
    exact End.of rfl ⟨rfl, fun h => by simp at h, hf⟩) (fun i hi ih => by
    replace ih : ∀ (σ1 : Mem) (v3 : Option MV), ((∃ x : RS, HRx σ1 o n m c E A x ∧ okR n m c x ∧ ruR (farE E) c E A look (41 - (i + 1)) x = ruR (farE E) c E A look 41 (x0R P)) ∧ frI o (o + 30) σ σ1) → End (ev sh (d + 5) 86 23 [some (mR (o)), some (mI ((look : Nat) : Int)), some (mI (((i + 1) : Nat) : Int)), v3] [] σ1) (fun r σ' => r = some (mI (bi (ruR (farE E) c E A look 41 (x0R P)).2)) ∧ ((ruR (farE E) c E A look 41 (x0R P)).2 = true → HRx σ' o n m c E A (ruR (farE E) c E A look 41 (x0R P)).1 ∧ okR n m c (ruR (farE E) c E A look 41 (x0R P)).1) ∧ frI o (o + 30) σ σ') := ih
    intro σ1 v3 hp
    replace hp : (∃ x : RS, HRx σ1 o n m c E A x ∧ okR n m c x ∧ ruR (farE E) c E A look (41 - i) x = ruR (farE E) c E A look 41 (x0R P)) ∧ frI o (o + 30) σ σ1 := hp
    show End (ev sh (d + 5) 86 23 [some (mR (o)), some (mI ((look : Nat) : Int)), some (mI ((i : Nat) : Int)), v3] [] σ1) (fun r σ' => r = some (mI (bi (ruR (farE E) c E A look 41 (x0R P)).2)) ∧ ((ruR (farE E) c E A look 41 (x0R P)).2 = true → HRx σ' o n m c E A (ruR (farE E) c E A look 41 (x0R P)).1 ∧ okR n m c (ruR (farE E) c E A look 41 (x0R P)).1) ∧ frI o (o + 30) σ σ')
    obtain ⟨⟨x, h1, h2, h3⟩, hf⟩ := hp
    rw [show 41 - i = (41 - (i + 1)) + 1 by omega, ruR] at h3
    obtain ⟨hP1, hD1, hS1, h40, hw1, hw1'⟩ := id h2
    obtain ⟨ra, σ2, a1, rfl, a3, a4, a5⟩ := Z88 (d := d) (t := x.2.2) hs h1.1 hk hP1 hD1 h40 hS1
    have hn2 : σ2.1 o 4 = (x.2.2 : Int) := by rw [a5.1 _ (by omega)]; exact h1.2
    have hx2 : HRx σ2 o n m c E A (ddR (farE E) c A x) := ⟨a3, hn2⟩
    have ok2 : okR n m c (ddR (farE E) c A x) := h2.dd
    have e28 : run sh (d + 4) 28 [mR (o + 1)] σ2 = some (some (mI (if (ddR (farE E) c A x).2.1.1 = 2 ^ c.length - 1 then 1 else 0)), σ2) := U28 (d := d + 3) hcr a3.1 a3.2.1 hk ok2.2.1
    have f2 : frI o (o + 30) σ σ2 := hf.tr (a5.w (by omega) (by omega))
    rw [e86_23]
    by_cases g1 : (ddR (farE E) c A x).2.1.1 = 2 ^ c.length - 1
    · rw [if_pos g1] at h3
      rw [if_pos g1] at e28
      simp (disch := first | assumption | omega | (simp (disch := omega) only [wN, w0, w1]; omega)) only [e86_0, e86_1, e86_4, e86_5, e86_8, e86_9, e86_10, e86_13, e86_14, e86_17, e86_18, e86_21, e86_22, e86_24, e86_26, e86_29, e86_30, e86_33, e86_34, e86_37, e86_40, e86_43, e86_44, e86_45, e86_46, e86_47, e86_50, e86_51, e86_52, e86_53, e86_56, e86_57, e86_60, e86_62, e86_65, e86_66, e86_67, e86_68, e86_69, e86_72, e86_75, e86_78, e86_79, kl_I, kl_R, kl_N, kl_L, oSm, oNn, Option.bind_some, wN, if_pos, if_neg, nS, tN, t0, w0, w1, w2, w3, w4, w5, wm1, upA_ne, upA_same, if_true, if_false, Bool.false_eq_true, w40, r0, a1, e28]
      rw [← h3]
      exact End.of rfl ⟨rfl, fun _ => ⟨hx2, ok2⟩, f2⟩
    · rw [if_neg g1] at h3
      rw [if_neg g1] at e28
      have two : ∀ i, i < c.length → opB A (ddR (farE E) c A x).2.1.1 i = true → 3 ≤ (gA c i).1 := by
        intro i hi hop
        have e : (ddR (farE E) c A x).2.1.1 = daD (farE E) c A x.1 x.2.1.1 c.length := rrA_D _ _ _ _ _ _
        rw [e] at hop
        exact (op_two hA c.length (Nat.le_refl _) i hi hop).1
      obtain ⟨rb, σ3, b1, rfl, b3, b4⟩ := Z94 (d := d) (look := look) hs hx2 hk ok2 hlook two
      have hn3 := b3.2
      have hn3 : σ3.1 o 4 = (x.2.2 : Int) := hn3
      have f3 : frI o (o + 30) σ σ3 := f2.tr (b4.w (by omega) (by omega))
      have hcr2 := (beS_r (F := farE E) (c := c) (E := E) (P := (ddR (farE E) c A x).1) (w := (ddR (farE E) c A x).2.1.2.1) (fr := frR c A (ddR (farE E) c A x)) (nx := nxR c A look (ddR (farE E) c A x)) (H := plS c (ddR (farE E) c A x).1 (frR c A (ddR (farE E) c A x)) c.length) E.length).1
      have hcr2 : chR (farE E) c E A look (ddR (farE E) c A x) = -1 ∨ ∃ k : Nat, k < E.length ∧ chR (farE E) c E A look (ddR (farE E) c A x) = (k : Int) := hcr2
      rcases hcr2 with hc | ⟨k, hk1, hc⟩
      · rw [if_pos (Or.inl hc)] at h3
        rw [hc] at b1
        simp (disch := first | assumption | omega | (simp (disch := omega) only [wN, w0, w1]; omega)) only [e86_0, e86_1, e86_4, e86_5, e86_8, e86_9, e86_10, e86_13, e86_14, e86_17, e86_18, e86_21, e86_22, e86_24, e86_26, e86_29, e86_30, e86_33, e86_34, e86_37, e86_40, e86_43, e86_44, e86_45, e86_46, e86_47, e86_50, e86_51, e86_52, e86_53, e86_56, e86_57, e86_60, e86_62, e86_65, e86_66, e86_67, e86_68, e86_69, e86_72, e86_75, e86_78, e86_79, kl_I, kl_R, kl_N, kl_L, oSm, oNn, Option.bind_some, wN, if_pos, if_neg, nS, tN, t0, w0, w1, w2, w3, w4, w5, wm1, upA_ne, upA_same, if_true, if_false, Bool.false_eq_true, w40, r0, a1, e28, b1]
        rw [← h3]
        exact End.of rfl ⟨rfl, fun h => by simp at h, f3⟩
      · rw [hc] at b1
        by_cases g2 : x.2.2 = 40
        · rw [if_pos (Or.inr g2)] at h3
          simp (disch := first | assumption | omega | (simp (disch := omega) only [wN, w0, w1]; omega)) only [e86_0, e86_1, e86_4, e86_5, e86_8, e86_9, e86_10, e86_13, e86_14, e86_17, e86_18, e86_21, e86_22, e86_24, e86_26, e86_29, e86_30, e86_33, e86_34, e86_37, e86_40, e86_43, e86_44, e86_45, e86_46, e86_47, e86_50, e86_51, e86_52, e86_53, e86_56, e86_57, e86_60, e86_62, e86_65, e86_66, e86_67, e86_68, e86_69, e86_72, e86_75, e86_78, e86_79, kl_I, kl_R, kl_N, kl_L, oSm, oNn, Option.bind_some, wN, if_pos, if_neg, nS, tN, t0, w0, w1, w2, w3, w4, w5, wm1, upA_ne, upA_same, if_true, if_false, Bool.false_eq_true, w40, r0, a1, e28, b1, hn3]
          rw [← h3]
          exact End.of rfl ⟨rfl, fun h => by simp at h, f3⟩
        · rw [if_neg (fun z => by rcases z with z | z <;> omega), hc, tN] at h3
          obtain ⟨rc, σ4, c1, rfl, c3, c4⟩ := Z91 (d := d) hs b3 hk ok2 hk1 (show (ddR (farE E) c A x).2.2 < 40 by show x.2.2 < 40; omega)
          simp (disch := first | assumption | omega | (simp (disch := omega) only [wN, w0, w1]; omega)) only [e86_0, e86_1, e86_4, e86_5, e86_8, e86_9, e86_10, e86_13, e86_14, e86_17, e86_18, e86_21, e86_22, e86_24, e86_26, e86_29, e86_30, e86_33, e86_34, e86_37, e86_40, e86_43, e86_44, e86_45, e86_46, e86_47, e86_50, e86_51, e86_52, e86_53, e86_56, e86_57, e86_60, e86_62, e86_65, e86_66, e86_67, e86_68, e86_69, e86_72, e86_75, e86_78, e86_79, kl_I, kl_R, kl_N, kl_L, oSm, oNn, Option.bind_some, wN, if_pos, if_neg, nS, tN, t0, w0, w1, w2, w3, w4, w5, wm1, upA_ne, upA_same, if_true, if_false, Bool.false_eq_true, w40, r0, a1, e28, b1, hn3, c1]
          exact ih _ _ ⟨⟨_, c3, ok2.sw hvE hk1 (by show x.2.2 < 40; omega), h3⟩, f3.tr c4⟩) 0 (Nat.zero_le _)
  have f0 : frI (o + 22) (o + 22) σ (upA σ.1 (o + 22) (up1 (σ.1 (o + 22)) 6 0), σ.2) := frI.up (by omega)
  have f1 : frI o o (upA σ.1 (o + 22) (up1 (σ.1 (o + 22)) 6 0), σ.2) (upA (upA σ.1 (o + 22) (up1 (σ.1 (o + 22)) 6 0)) o (up1 (σ.1 o) 4 0), σ.2) := frI.up (x := o) (y := o) (by omega)
  obtain ⟨r, σ3, a1, rfl, a3, a4⟩ := F287 (d := d + 3) (v := 0) (σ := (upA (upA σ.1 (o + 22) (up1 (σ.1 (o + 22)) 6 0)) o (up1 (σ.1 o) 4 0), σ.2)) k2 hw2 l2 (by omega)
  simp (disch := first | assumption | omega | (simp (disch := omega) only [wN, w0, w1]; omega)) only [e86_0, e86_1, e86_4, e86_5, e86_8, e86_9, e86_10, e86_13, e86_14, e86_17, e86_18, e86_21, e86_22, e86_24, e86_26, e86_29, e86_30, e86_33, e86_34, e86_37, e86_40, e86_43, e86_44, e86_45, e86_46, e86_47, e86_50, e86_51, e86_52, e86_53, e86_56, e86_57, e86_60, e86_62, e86_65, e86_66, e86_67, e86_68, e86_69, e86_72, e86_75, e86_78, e86_79, kl_I, kl_R, kl_N, kl_L, oSm, oNn, Option.bind_some, wN, if_pos, if_neg, nS, tN, t0, w0, w1, w2, w3, w4, w5, wm1, upA_ne, upA_same, if_true, if_false, Bool.false_eq_true, q86, r0, r1, r3, upA_ne, a1]
  refine L σ3 none ⟨⟨x0R P, ⟨⟨?_, ⟨?_, ?_⟩, ?_, ?_, ?_⟩, ?_⟩, ⟨hP, Nat.two_pow_pos _, ?_, by show 0 ≤ 40; omega, fun _ _ => Nat.zero_le _, fun _ _ => Nat.zero_le _⟩, rfl⟩, ((f0.w (by omega) (by omega)).tr (f1.w (by omega) (by omega))).tr (a4.w (by omega) (by omega))⟩
  · exact ((hK.fr f0 (by omega)).fr f1 (by omega)).fr a4 (by omega)
  · exact ((hM.1.fr f0 (by omega)).fr f1 (by omega)).fr a4 (by omega)
  · rw [a4.1 _ (by omega), f1.1 _ (by omega), f0.1 _ (by omega)]; exact hM.2
  · intro p hp; rw [a3 p hp]; rfl
  · refine ⟨?_, fun j hj => absurd hj (Nat.not_lt_zero _)⟩
    rw [a4.1 _ (by omega), f1.1 _ (by omega)]
    show upA _ _ _ _ _ = _
    rw [upA_same, up1_same]; rfl
  · intro j hj; exact absurd hj (Nat.not_lt_zero _)
  · rw [a4.1 _ (by omega)]
    show upA _ _ _ _ _ = _
    rw [upA_same, up1_same]; rfl
  · show 0 = pcD 0 c.length + 0
    have : ∀ k, pcD 0 k = 0 := fun k => by
      induction k with
      | zero => rfl
      | succ k ih => show cnt _ k + _ = 0
                     unfold pcD at ih
                     rw [ih]; simp
    rw [this]
end ROE

