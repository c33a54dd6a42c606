/-! ===== Finder: canEnd ===== -/
section FNE
variable {sh : Shp} {f n m : Nat} {c : List Gt} {E : List Ed} {A : Nat → Nat} {u : Nat → Int}
theorem frI.L {x y : Nat} {σ σ' : Mem} (h : frI x y σ σ') (p : Nat) : σ'.2 p = σ.2 p := by rw [h.2]
theorem mxx_ex {f : Nat → Nat} : ∀ n k, k < mxx f n → ∃ h, h < n ∧ k < f h
  | 0, k, h => by simp [mxx] at h
  | n + 1, k, h => by
    rw [mxx] at h
    by_cases e : k < f n
    · exact ⟨n, by omega, e⟩
    · obtain ⟨x, h1, h2⟩ := mxx_ex (f := f) n k (by omega)
      exact ⟨x, by omega, h2⟩
/-- what a finder keeps -/
theorem HKs.e {σ σ' : Mem} {k : Nat} (h : HKs σ k c m E A) (he : σ'.1 = σ.1) : HKs σ' k c m E A := by
  unfold HKs HG HB HW HF at *
  rw [he]; exact h
theorem HKm.e {σ σ' : Mem} {k D : Nat} {P : Nat → Nat} (h : HKm σ k n P D) (he : σ'.1 = σ.1) : HKm σ' k n P D := by
  unfold HKm HL at *
  rw [he]; exact h
def HFn (σ : Mem) (f n m : Nat) (c : List Gt) (E : List Ed) (A : Nat → Nat) (u : Nat → Int) (P : Nat → Nat) (D : Nat) : Prop := HKs σ (f + 1) c m E A ∧ HKm σ (f + 1) n P D ∧ (∀ x, n ≤ x → σ.1 (f + 19) x = u x) ∧ tbO (σ.2 (f + 22)) n m c E A u
theorem V39 (hs : fnS sh f) (hk : okK n m c E) (l : Nat) : ∀ (d : Nat) (σ : Mem) (P : Nat → Nat) (D : Nat), l ≤ 6 → HFn σ f n m c E A u P D → okP n m P → D < 2 ^ c.length →
    End (run sh (d + 5 + l) 39 [mR f, mI (l : Int)] σ) (fun r σ' => r = some (mI (bi (caB (farE E) c E A l P D))) ∧ (caB (farE E) c E A l P D = false → HFn σ' f n m c E A u P (daD (farE E) c A P D c.length)) ∧ frB (f + 1) (f + 22) σ σ') := by
  obtain ⟨ho, r0, r1, hcr, k1, l1, hw⟩ := id hs
  obtain ⟨hco, c0, c1, c2, c3, hcg, hcB, hcL, ck, cl, cw⟩ := id hcr
  obtain ⟨hn, hm, hE, h30, hv, hvE⟩ := id hk
  have hbo := hcB.1
  have p30 : 2 ^ c.length ≤ 2 ^ 30 := Nat.pow_le_pow_right (by omega) h30
  have w6 : wi 6 = 6 := rfl
  induction l with
  | zero =>
    intro d σ P D hl6 hF hP hD
    obtain ⟨hK, hM, hu, hT⟩ := hF
    obtain ⟨ra, σ1, a1, rfl, a3, a4, a5⟩ := U32 (d := d) hcr hK hM hk hP hD
    have hD1 := daD_lt (F := farE E) (c := c) (A := A) (P := P) hD _ (Nat.le_refl _)
    have e28 := U28 (d := d + 3) hcr a3 a4 hk hD1
    rw [caB]
    by_cases g1 : daD (farE E) c A P D c.length = 2 ^ c.length - 1
    · rw [if_pos g1] at e28
      simp (disch := first | assumption | omega | (simp (disch := omega) only [wN, w0, w1]; omega)) only [e39_0, e39_1, e39_3, e39_6, e39_7, e39_8, e39_9, e39_12, e39_13, e39_14, e39_17, e39_18, e39_21, e39_24, e39_25, e39_26, e39_27, e39_30, e39_31, e39_32, e39_35, e39_38, e39_39, e39_40, e39_41, e39_44, e39_45, e39_46, e39_49, e39_52, e39_53, e39_54, e39_55, e39_58, e39_59, e39_60, e39_62, e39_64, e39_65, e39_68, e39_71, e39_74, e39_75, e39_77, e39_80, e39_81, e39_82, e39_83, e39_84, e39_87, e39_90, e39_91, e39_92, e39_93, e39_95, e39_98, e39_99, e39_100, e39_103, e39_106, e39_109, e39_110, e39_111, e39_114, e39_115, kl_I, kl_R, kl_N, kl_L, oSm, oNn, Option.bind_some, wN, if_pos, if_neg, nS, tN, t0, w0, w1, w2, w3, w4, w5, wm1, upA_ne, upA_same, if_true, if_false, Bool.false_eq_true, q39, r0, a1, e28, w6, Int.natCast_zero]
      rw [decide_eq_true g1]
      exact End.of rfl ⟨rfl, (fun h => by cases h), a5.B.w (by omega) (by omega)⟩
    · rw [if_neg g1] at e28
      simp (disch := first | assumption | omega | (simp (disch := omega) only [wN, w0, w1]; omega)) only [e39_0, e39_1, e39_3, e39_6, e39_7, e39_8, e39_9, e39_12, e39_13, e39_14, e39_17, e39_18, e39_21, e39_24, e39_25, e39_26, e39_27, e39_30, e39_31, e39_32, e39_35, e39_38, e39_39, e39_40, e39_41, e39_44, e39_45, e39_46, e39_49, e39_52, e39_53, e39_54, e39_55, e39_58, e39_59, e39_60, e39_62, e39_64, e39_65, e39_68, e39_71, e39_74, e39_75, e39_77, e39_80, e39_81, e39_82, e39_83, e39_84, e39_87, e39_90, e39_91, e39_92, e39_93, e39_95, e39_98, e39_99, e39_100, e39_103, e39_106, e39_109, e39_110, e39_111, e39_114, e39_115, kl_I, kl_R, kl_N, kl_L, oSm, oNn, Option.bind_some, wN, if_pos, if_neg, nS, tN, t0, w0, w1, w2, w3, w4, w5, wm1, upA_ne, upA_same, if_true, if_false, Bool.false_eq_true, q39, r0, a1, e28, w6, Int.natCast_zero]
      rw [decide_eq_false g1]
      refine End.of rfl ⟨rfl, fun _ => ⟨a3, a4, fun x hx => ?_, ?_⟩, a5.B.w (by omega) (by omega)⟩
      · rw [a5.1 _ (by omega)]; exact hu x hx
      · rw [a5.2]; exact hT
  | succ l ihl =>
    intro d1 σ P D hl6 hF hP hD
    obtain ⟨d, hd⟩ : ∃ d, d = d1 + l + 1 := ⟨_, rfl⟩
    obtain ⟨hK, hM, hu, hT⟩ := hF
    have hA : ∀ g, g < c.length → A g < 2 ^ g := fun g hg => (hK.2.2.2 g hg).2
    obtain ⟨ra, σ1, a1, rfl, a3, a4, a5⟩ := U32 (d := d) hcr hK hM hk hP hD
    have hD1 := daD_lt (F := farE E) (c := c) (A := A) (P := P) hD _ (Nat.le_refl _)
    have hda := caB_da (P := P) (D := D) (F := farE E) (E := E) hA (l + 1)
    have e28 := U28 (d := d + 3) hcr a3 a4 hk hD1
    have hu1 : ∀ x, n ≤ x → σ1.1 (f + 19) x = u x := fun x hx => by rw [a5.1 _ (by omega)]; exact hu x hx
    have hT1 : tbO (σ1.2 (f + 22)) n m c E A u := by rw [a5.2]; exact hT
    have hF1 : HFn σ1 f n m c E A u P (daD (farE E) c A P D c.length) := ⟨a3, a4, hu1, hT1⟩
    have f1 : frB (f + 1) (f + 22) σ σ1 := a5.B.w (by omega) (by omega)
    have dd : d1 + 5 + (l + 1) = d + 5 := by omega
    have wl6 : wi ((l + 1 : Nat) : Int) = ((l + 1 : Nat) : Int) := wN (by omega)
    have a1 : run sh (d + 4) 32 [mR (f + 1)] σ = some (none, σ1) := a1
    rw [dd]
    by_cases g1 : daD (farE E) c A P D c.length = 2 ^ c.length - 1
    · rw [if_pos g1] at e28
      have ec : caB (farE E) c E A (l + 1) P D = true := by rw [caB, decide_eq_true g1]; rfl
      rw [ec]
      simp (disch := first | assumption | omega | (simp (disch := omega) only [wN, w0, w1]; omega)) only [e39_0, e39_1, e39_3, e39_6, e39_7, e39_8, e39_9, e39_12, e39_13, e39_14, e39_17, e39_18, e39_21, e39_24, e39_25, e39_26, e39_27, e39_30, e39_31, e39_32, e39_35, e39_38, e39_39, e39_40, e39_41, e39_44, e39_45, e39_46, e39_49, e39_52, e39_53, e39_54, e39_55, e39_58, e39_59, e39_60, e39_62, e39_64, e39_65, e39_68, e39_71, e39_74, e39_75, e39_77, e39_80, e39_81, e39_82, e39_83, e39_84, e39_87, e39_90, e39_91, e39_92, e39_93, e39_95, e39_98, e39_99, e39_100, e39_103, e39_106, e39_109, e39_110, e39_111, e39_114, e39_115, kl_I, kl_R, kl_N, kl_L, oSm, oNn, Option.bind_some, wN, if_pos, if_neg, nS, tN, t0, w0, w1, w2, w3, w4, w5, wm1, upA_ne, upA_same, if_true, if_false, Bool.false_eq_true, q39, r0, a1, e28, w6]
      exact End.of rfl ⟨rfl, (fun h => by cases h), f1⟩
    · rw [if_neg g1] at e28
      have e33 := U33 (d := d + 2) hcr a3 a4 hk hD1
      have two : ∀ g, g < c.length → (bts (opB A (daD (farE E) c A P D c.length)) c.length).testBit g = true → 3 ≤ (gA c g).1 := fun g hg hb => (op_two hA c.length (Nat.le_refl _) g hg (bts_tb hb).2).1
      have e35 := U35 (d := d + 1) (S := bts (opB A (daD (farE E) c A P D c.length)) c.length) hcr a3 a4 hk hP (bts_lt _ _) two
      have f9 : fxS (farE E) c P (bts (opB A (daD (farE E) c A P D c.length)) c.length) c.length ≤ 99 := mxx_le _ (fun i hi => by
        split
        · exact farE_le _ _ _
        · omega)
      by_cases g2 : l + 1 < fxS (farE E) c P (bts (opB A (daD (farE E) c A P D c.length)) c.length) c.length - 1
      · have ec : caB (farE E) c E A (l + 1) P D = false := by
          cases hcb : caB (farE E) c E A (l + 1) P D with
          | false => rfl
          | true =>
            obtain ⟨g, hg, hlt⟩ := mxx_ex (f := fun i => if (bts (opB A (daD (farE E) c A P D c.length)) c.length).testBit i = true then farE E (P (gA c i).2.1) (P (gA c i).2.2.toNat) else 0) c.length (l + 2) (by unfold fxS at g2; omega)
            by_cases hb : (bts (opB A (daD (farE E) c A P D c.length)) c.length).testBit g = true
            · simp only [hb, if_true] at hlt
              rw [← hda] at hcb
              have ho := (bts_tb hb).2
              have hbt : (daD (farE E) c A P D c.length).testBit g = false := by
                unfold opB at ho
                revert ho
                cases (daD (farE E) c A P D c.length).testBit g <;> simp
              have := caB_far hv hvE hm hg (two g hg hb) (l + 1) _ _ hP hD1 hcb hbt
              omega
            · simp only [hb, if_false, Bool.false_eq_true] at hlt
              omega
        rw [ec]
        have wf : wi ((fxS (farE E) c P (bts (opB A (daD (farE E) c A P D c.length)) c.length) c.length : Int) - 1) = (fxS (farE E) c P (bts (opB A (daD (farE E) c A P D c.length)) c.length) c.length : Int) - 1 := wi_id (by omega) (by omega)
        simp (disch := first | assumption | omega | (simp (disch := omega) only [wN, w0, w1]; omega)) only [e39_0, e39_1, e39_3, e39_6, e39_7, e39_8, e39_9, e39_12, e39_13, e39_14, e39_17, e39_18, e39_21, e39_24, e39_25, e39_26, e39_27, e39_30, e39_31, e39_32, e39_35, e39_38, e39_39, e39_40, e39_41, e39_44, e39_45, e39_46, e39_49, e39_52, e39_53, e39_54, e39_55, e39_58, e39_59, e39_60, e39_62, e39_64, e39_65, e39_68, e39_71, e39_74, e39_75, e39_77, e39_80, e39_81, e39_82, e39_83, e39_84, e39_87, e39_90, e39_91, e39_92, e39_93, e39_95, e39_98, e39_99, e39_100, e39_103, e39_106, e39_109, e39_110, e39_111, e39_114, e39_115, kl_I, kl_R, kl_N, kl_L, oSm, oNn, Option.bind_some, wN, if_pos, if_neg, nS, tN, t0, w0, w1, w2, w3, w4, w5, wm1, upA_ne, upA_same, if_true, if_false, Bool.false_eq_true, q39, r0, a1, e28, w6, e33, e35, wf]
        exact End.of rfl ⟨rfl, fun _ => hF1, f1⟩
      · have wf : wi ((fxS (farE E) c P (bts (opB A (daD (farE E) c A P D c.length)) c.length) c.length : Int) - 1) = (fxS (farE E) c P (bts (opB A (daD (farE E) c A P D c.length)) c.length) c.length : Int) - 1 := wi_id (by omega) (by omega)
        obtain ⟨b, e42, hb42⟩ := V42 (d := d + 1) (l := l + 1) hs a4 hk hP hu1 (by omega) hT1 (by omega) (by omega)
        cases b with
        | true =>
          have ec : caB (farE E) c E A (l + 1) P D = false := by rw [← hda]; exact hb42 rfl
          rw [ec]
          have e42 : run sh (d + 4) 42 [mR f, mI ((l + 1 : Nat) : Int)] σ1 = some (some (mI 1), σ1) := e42
          simp (disch := first | assumption | omega | (simp (disch := omega) only [wN, w0, w1]; omega)) only [e39_0, e39_1, e39_3, e39_6, e39_7, e39_8, e39_9, e39_12, e39_13, e39_14, e39_17, e39_18, e39_21, e39_24, e39_25, e39_26, e39_27, e39_30, e39_31, e39_32, e39_35, e39_38, e39_39, e39_40, e39_41, e39_44, e39_45, e39_46, e39_49, e39_52, e39_53, e39_54, e39_55, e39_58, e39_59, e39_60, e39_62, e39_64, e39_65, e39_68, e39_71, e39_74, e39_75, e39_77, e39_80, e39_81, e39_82, e39_83, e39_84, e39_87, e39_90, e39_91, e39_92, e39_93, e39_95, e39_98, e39_99, e39_100, e39_103, e39_106, e39_109, e39_110, e39_111, e39_114, e39_115, kl_I, kl_R, kl_N, kl_L, oSm, oNn, Option.bind_some, wN, if_pos, if_neg, nS, tN, t0, w0, w1, w2, w3, w4, w5, wm1, upA_ne, upA_same, if_true, if_false, Bool.false_eq_true, q39, r0, a1, e28, w6, e33, e35, wf, e42]
          exact End.of rfl ⟨rfl, fun _ => hF1, f1⟩
        | false =>
          have e42 : run sh (d + 4) 42 [mR f, mI ((l + 1 : Nat) : Int)] σ1 = some (some (mI 0), σ1) := e42
          have hdn := a4.2
          have L := for_P (E.length) (fun e => ∀ (σ2 : Mem), (HFn σ2 f n m c E A u P (daD (farE E) c A P D c.length) ∧ (∀ e', e' < e → caB (farE E) c E A l (swP (eA E e').1 (eA E e').2 P) (daD (farE E) c A P D c.length) = false) ∧ frB (f + 1) (f + 22) σ σ2) → End (ev sh (d + 5) 39 62 [some (mR (f)), some (mI ((l + 1 : Nat) : Int)), some (mR ((f + 1))), some (mI ((daD (farE E) c A P D c.length : Nat) : Int)), some (mI ((e : Nat) : Int))] [] σ2) (fun r σ' => r = some (mI (bi (caB (farE E) c E A (l + 1) P D))) ∧ (caB (farE E) c E A (l + 1) P D = false → HFn σ' f n m c E A u P (daD (farE E) c A P D c.length)) ∧ frB (f + 1) (f + 22) σ σ')) (by
            intro σ2  hp
            replace hp : HFn σ2 f n m c E A u P (daD (farE E) c A P D c.length) ∧ (∀ e', e' < (E.length) → caB (farE E) c E A l (swP (eA E e').1 (eA E e').2 P) (daD (farE E) c A P D c.length) = false) ∧ frB (f + 1) (f + 22) σ σ2 := hp
            show End (ev sh (d + 5) 39 62 [some (mR (f)), some (mI ((l + 1 : Nat) : Int)), some (mR ((f + 1))), some (mI ((daD (farE E) c A P D c.length : Nat) : Int)), some (mI (((E.length) : Nat) : Int))] [] σ2) (fun r σ' => r = some (mI (bi (caB (farE E) c E A (l + 1) P D))) ∧ (caB (farE E) c E A (l + 1) P D = false → HFn σ' f n m c E A u P (daD (farE E) c A P D c.length)) ∧ frB (f + 1) (f + 22) σ σ')
            obtain ⟨⟨g3, g4, g5, g6⟩, g7, g8⟩ := hp
            have hl2 := g3.2.1.2.1
            have ex0 : exB (fun e => caB (farE E) c E A l (swP (eA E e).1 (eA E e).2 P) (daD (farE E) c A P D c.length)) E.length = false := by
              cases hx : exB (fun e => caB (farE E) c E A l (swP (eA E e).1 (eA E e).2 P) (daD (farE E) c A P D c.length)) E.length with
              | false => rfl
              | true =>
                obtain ⟨i, h1, h2⟩ := (exB_iff _).mp hx
                rw [g7 i h1] at h2; cases h2
            have ec : caB (farE E) c E A (l + 1) P D = false := by rw [caB, decide_eq_false g1, ex0]; rfl
            obtain ⟨rb, σ3, b1, rfl, b3, b4⟩ := V43 (d := d + 1) (l := l + 1) hs g4 hk hP g5 (by omega) g6 (by omega) (by omega) (by rw [hda]; exact ec)
            have b1 : run sh (d + 4) 43 [mR f, mI ((l + 1 : Nat) : Int)] σ2 = some (none, σ3) := b1
            rw [e39_62, ec]
            simp (disch := first | assumption | omega | (simp (disch := omega) only [wN, w0, w1]; omega)) only [e39_0, e39_1, e39_3, e39_6, e39_7, e39_8, e39_9, e39_12, e39_13, e39_14, e39_17, e39_18, e39_21, e39_24, e39_25, e39_26, e39_27, e39_30, e39_31, e39_32, e39_35, e39_38, e39_39, e39_40, e39_41, e39_44, e39_45, e39_46, e39_49, e39_52, e39_53, e39_54, e39_55, e39_58, e39_59, e39_60, e39_64, e39_65, e39_68, e39_71, e39_74, e39_75, e39_77, e39_80, e39_81, e39_82, e39_83, e39_84, e39_87, e39_90, e39_91, e39_92, e39_93, e39_95, e39_98, e39_99, e39_100, e39_103, e39_106, e39_109, e39_110, e39_111, e39_114, e39_115, kl_I, kl_R, kl_N, kl_L, oSm, oNn, Option.bind_some, wN, if_pos, if_neg, nS, tN, t0, w0, w1, w2, w3, w4, w5, wm1, upA_ne, upA_same, if_true, if_false, Bool.false_eq_true, c1, hl2, b1]
            exact End.of rfl ⟨rfl, fun _ => ⟨g3.e b4.1, g4.e b4.1, fun x hx => by rw [b4.1]; exact g5 x hx, b3⟩, g8.tr (b4.B.w (by omega) (by omega))⟩) (fun e hi ih => by
            replace ih : ∀ (σ2 : Mem), (HFn σ2 f n m c E A u P (daD (farE E) c A P D c.length) ∧ (∀ e', e' < (e + 1) → caB (farE E) c E A l (swP (eA E e').1 (eA E e').2 P) (daD (farE E) c A P D c.length) = false) ∧ frB (f + 1) (f + 22) σ σ2) → End (ev sh (d + 5) 39 62 [some (mR (f)), some (mI ((l + 1 : Nat) : Int)), some (mR ((f + 1))), some (mI ((daD (farE E) c A P D c.length : Nat) : Int)), some (mI (((e + 1) : Nat) : Int))] [] σ2) (fun r σ' => r = some (mI (bi (caB (farE E) c E A (l + 1) P D))) ∧ (caB (farE E) c E A (l + 1) P D = false → HFn σ' f n m c E A u P (daD (farE E) c A P D c.length)) ∧ frB (f + 1) (f + 22) σ σ') := ih
            intro σ2  hp
            replace hp : HFn σ2 f n m c E A u P (daD (farE E) c A P D c.length) ∧ (∀ e', e' < e → caB (farE E) c E A l (swP (eA E e').1 (eA E e').2 P) (daD (farE E) c A P D c.length) = false) ∧ frB (f + 1) (f + 22) σ σ2 := hp
            show End (ev sh (d + 5) 39 62 [some (mR (f)), some (mI ((l + 1 : Nat) : Int)), some (mR ((f + 1))), some (mI ((daD (farE E) c A P D c.length : Nat) : Int)), some (mI ((e : Nat) : Int))] [] σ2) (fun r σ' => r = some (mI (bi (caB (farE E) c E A (l + 1) P D))) ∧ (caB (farE E) c E A (l + 1) P D = false → HFn σ' f n m c E A u P (daD (farE E) c A P D c.length)) ∧ frB (f + 1) (f + 22) σ σ')
            obtain ⟨⟨g3, g4, g5, g6⟩, g7, g8⟩ := hp
            have hl2 := g3.2.1.2.1
            have h5 := hvE.at hi
            have hsw := hP.sw (p := (eA E e).1) (q := (eA E e).2) (by omega) (by omega)
            obtain ⟨rb, σ3, b1, rfl, b3, b4, b5, b6⟩ := U36x (d := d + 1) hcr g3 g4 hk hP hi
            have b1 : run sh (d + 4) 36 [mR (f + 1), mI (e : Int)] σ2 = some (none, σ3) := b1
            have hF3 : HFn σ3 f n m c E A u (swP (eA E e).1 (eA E e).2 P) (daD (farE E) c A P D c.length) := ⟨b3, b4, fun x hx => by rw [b6 x hx]; exact g5 x hx, by rw [b5.2]; exact g6⟩
            obtain ⟨rc, σ4, i1, i2, i3, i4⟩ := ihl d1 σ3 _ _ (by omega) hF3 hsw hD1
            rw [show d1 + 5 + l = d + 4 by omega, i2] at i1
            have el : ((l + 1 : Nat) : Int) - 1 = (l : Int) := by omega
            have f4 : frB (f + 1) (f + 22) σ σ4 := (g8.tr (b5.B.w (by omega) (by omega))).tr i4
            rw [e39_62]
            cases hcb : caB (farE E) c E A l (swP (eA E e).1 (eA E e).2 P) (daD (farE E) c A P D c.length) with
            | true =>
              have ec : caB (farE E) c E A (l + 1) P D = true := by rw [caB, Bool.or_eq_true]; exact Or.inr ((exB_iff _).mpr ⟨e, hi, hcb⟩)
              rw [hcb] at i1
              have i1 : run sh (d + 4) 39 [mR f, mI (l : Int)] σ3 = some (some (mI 1), σ4) := i1
              rw [ec]
              simp (disch := first | assumption | omega | (simp (disch := omega) only [wN, w0, w1]; omega)) only [e39_0, e39_1, e39_3, e39_6, e39_7, e39_8, e39_9, e39_12, e39_13, e39_14, e39_17, e39_18, e39_21, e39_24, e39_25, e39_26, e39_27, e39_30, e39_31, e39_32, e39_35, e39_38, e39_39, e39_40, e39_41, e39_44, e39_45, e39_46, e39_49, e39_52, e39_53, e39_54, e39_55, e39_58, e39_59, e39_60, e39_64, e39_65, e39_68, e39_71, e39_74, e39_75, e39_77, e39_80, e39_81, e39_82, e39_83, e39_84, e39_87, e39_90, e39_91, e39_92, e39_93, e39_95, e39_98, e39_99, e39_100, e39_103, e39_106, e39_109, e39_110, e39_111, e39_114, e39_115, kl_I, kl_R, kl_N, kl_L, oSm, oNn, Option.bind_some, wN, if_pos, if_neg, nS, tN, t0, w0, w1, w2, w3, w4, w5, wm1, upA_ne, upA_same, if_true, if_false, Bool.false_eq_true, c1, hl2, b1, el, i1]
              exact End.of rfl ⟨rfl, (fun h => by cases h), f4⟩
            | false =>
              rw [hcb] at i1
              have i1 : run sh (d + 4) 39 [mR f, mI (l : Int)] σ3 = some (some (mI 0), σ4) := i1
              obtain ⟨j3, j4, j5, j6⟩ := i3 hcb
              obtain ⟨rd, σ5, k1', rfl, k3, k4, k5, k6⟩ := U36x (d := d + 1) hcr j3 j4 hk hsw hi
              rw [swP_swP (show (eA E e).1 ≠ (eA E e).2 by omega)] at k4
              have k1' : run sh (d + 4) 36 [mR (f + 1), mI (e : Int)] σ4 = some (none, σ5) := k1'
              simp (disch := first | assumption | omega | (simp (disch := omega) only [wN, w0, w1]; omega)) only [e39_0, e39_1, e39_3, e39_6, e39_7, e39_8, e39_9, e39_12, e39_13, e39_14, e39_17, e39_18, e39_21, e39_24, e39_25, e39_26, e39_27, e39_30, e39_31, e39_32, e39_35, e39_38, e39_39, e39_40, e39_41, e39_44, e39_45, e39_46, e39_49, e39_52, e39_53, e39_54, e39_55, e39_58, e39_59, e39_60, e39_64, e39_65, e39_68, e39_71, e39_74, e39_75, e39_77, e39_80, e39_81, e39_82, e39_83, e39_84, e39_87, e39_90, e39_91, e39_92, e39_93, e39_95, e39_98, e39_99, e39_100, e39_103, e39_106, e39_109, e39_110, e39_111, e39_114, e39_115, kl_I, kl_R, kl_N, kl_L, oSm, oNn, Option.bind_some, wN, if_pos, if_neg, nS, tN, t0, w0, w1, w2, w3, w4, w5, wm1, upA_ne, upA_same, if_true, if_false, Bool.false_eq_true, c1, hl2, b1, el, i1, k1']
              have f6 : frI (f + 1) (f + 1) σ5 (upA σ5.1 (f + 1) (up1 (σ5.1 (f + 1)) 4 (daD (farE E) c A P D c.length : Int)), σ5.2) := frI.up (by omega)
              refine ih _ ⟨⟨k3.fr f6 (by omega), k4.don, fun x hx => ?_, ?_⟩, fun e' he' => ?_, (f4.tr (k5.B.w (by omega) (by omega))).tr (f6.B.w (by omega) (by omega))⟩
              · rw [f6.1 _ (by omega), k6 x hx]; exact j5 x hx
              · rw [f6.2, k5.2]; exact j6
              · by_cases e2 : e' = e
                · subst e2; exact hcb
                · exact g7 e' (by omega)) 0 (Nat.zero_le _)
          simp (disch := first | assumption | omega | (simp (disch := omega) only [wN, w0, w1]; omega)) only [e39_0, e39_1, e39_3, e39_6, e39_7, e39_8, e39_9, e39_12, e39_13, e39_14, e39_17, e39_18, e39_21, e39_24, e39_25, e39_26, e39_27, e39_30, e39_31, e39_32, e39_35, e39_38, e39_39, e39_40, e39_41, e39_44, e39_45, e39_46, e39_49, e39_52, e39_53, e39_54, e39_55, e39_58, e39_59, e39_60, e39_64, e39_65, e39_68, e39_71, e39_74, e39_75, e39_77, e39_80, e39_81, e39_82, e39_83, e39_84, e39_87, e39_90, e39_91, e39_92, e39_93, e39_95, e39_98, e39_99, e39_100, e39_103, e39_106, e39_109, e39_110, e39_111, e39_114, e39_115, kl_I, kl_R, kl_N, kl_L, oSm, oNn, Option.bind_some, wN, if_pos, if_neg, nS, tN, t0, w0, w1, w2, w3, w4, w5, wm1, upA_ne, upA_same, if_true, if_false, Bool.false_eq_true, q39, r0, a1, e28, w6, e33, e35, wf, e42, hdn]
          exact L σ1 ⟨hF1, fun e' h => by omega, f1⟩
end FNE

