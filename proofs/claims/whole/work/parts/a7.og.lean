/-! ===== the reference: floors of the search ===== -/
def stI (n : Nat) (P : Nat → Nat) (l : Nat) : Int := if l < n then (P l : Int) else -1
/-- a floor f holds a layout and what is done -/
def FLo (σ : Mem) (f n : Nat) (P : Nat → Nat) (D : Nat) : Prop := σ.1 154 f = (D : Int) ∧ ∀ l, l < 4 → σ.1 156 (4 * f + l) = stI n P l
/-- floors below f are as they were -/
def lwF (f : Nat) (σ σ' : Mem) : Prop := ∀ j, j < f → σ'.1 153 j = σ.1 153 j ∧ σ'.1 154 j = σ.1 154 j ∧ σ'.1 155 j = σ.1 155 j ∧ ∀ l, l < 4 → σ'.1 156 (4 * j + l) = σ.1 156 (4 * j + l)
theorem lwF.rf {f : Nat} {σ : Mem} : lwF f σ σ := fun _ _ => ⟨rfl, rfl, rfl, fun _ _ => rfl⟩
theorem lwF.tr {f g : Nat} {σ σ1 σ2 : Mem} (h : lwF f σ σ1) (h2 : lwF g σ1 σ2) (hg : f ≤ g) : lwF f σ σ2 := fun j hj => by
  obtain ⟨a1, a2, a3, a4⟩ := h j hj
  obtain ⟨b1, b2, b3, b4⟩ := h2 j (by omega)
  exact ⟨b1.trans a1, b2.trans a2, b3.trans a3, fun l hl => (b4 l hl).trans (a4 l hl)⟩
theorem lwF.W {f x y u v : Nat} {σ σ' : Mem} (h : frW x y u v σ σ') (hx : y < 153 ∨ 156 < x ∨ y < x) : lwF f σ σ' := fun j _ => by
  rw [(h.1 153 (by omega) (by omega)).1, (h.1 154 (by omega) (by omega)).1, (h.1 155 (by omega) (by omega)).1, (h.1 156 (by omega) (by omega)).1]
  exact ⟨rfl, rfl, rfl, fun _ _ => rfl⟩
theorem FLo.lw {f g n D : Nat} {σ σ' : Mem} {P : Nat → Nat} (h : FLo σ f n P D) (hl : lwF g σ σ') (hf : f < g) : FLo σ' f n P D := by
  obtain ⟨_, a2, _, a4⟩ := hl f hf
  exact ⟨by rw [a2]; exact h.1, fun l q => by rw [a4 l q]; exact h.2 l q⟩
/-- all that a search changes -/
def frN (σ σ' : Mem) : Prop := frW 147 156 46 50 σ σ' ∧ σ'.1 151 = σ.1 151
theorem frN.rf {σ : Mem} : frN σ σ := ⟨frW.rf, rfl⟩
theorem frN.tr {σ σ1 σ2 : Mem} (h : frN σ σ1) (h2 : frN σ1 σ2) : frN σ σ2 := ⟨h.1.tr h2.1, h2.2.trans h.2⟩
theorem frW.N {x y u v : Nat} {σ σ' : Mem} (h : frW x y u v σ σ') (hx : 147 ≤ x ∨ y < x) (hy : y ≤ 156 ∨ y < x) (hu : 46 ≤ u ∨ v < u) (hv : v ≤ 50 ∨ v < u) (h1 : 151 < x ∨ y < 151) : frN σ σ' := ⟨h.w hx hy hu hv, (h.1 151 (by omega) (by omega)).1⟩
section OG
variable {sh : Shp} {d m n g f : Nat} {σ : Mem} {E : List Ed} {a : AX} {z w : Int} {c : List Gt} {P A : Nat → Nat} {b : Bool} {x : Nat × (Nat → Nat) × List Sp} {D l : Nat}
theorem RC.N {σ' : Mem} (h : RC σ n m c E A) (hf : frN σ σ') : RC σ' n m c E A := by
  obtain ⟨h1, h2, h3, h4, h5, h6⟩ := h
  refine ⟨h1.Wf hf.1 (by omega), h2.W hf.1 (by omega), fun y hy => by rw [hf.2]; exact h3 y hy, h4.W hf.1 (by omega) (by omega), by rw [hf.1.2 10 (by omega)]; exact h5, by rw [hf.1.2 8 (by omega)]; exact h6⟩
theorem M263 (hM : MS sh) (hR : RC σ n m c E A) (hc : c.length ≤ 30) (hv : okC n c) (hn : n ≤ 4) (hm : m ≤ 5) (hL : HLm σ 147 n P) (hP : okP n m P) (hD : σ.1 124 48 = (D : Int)) (hD2 : D < 2 ^ c.length) (hl6 : l ≤ 6) : run sh (d + 2) 263 [mR 124, mI (l : Int)] σ = some (some (mI (bi (tfB (farE E) c P D l))), σ) := by
  have mo := hM.1
  have m160 := hM.2.1
  obtain ⟨ra1, rk1, rl1⟩ := ms1 hM
  obtain ⟨ra41, rk41, rl41⟩ := ms41 hM
  have hl := hR.1.1
  have hla : laI sh 147 := ⟨rk41, rl41⟩
  unfold tfB
  have F := for_dn (fun i => ev sh (d + 2) 263 2 [some (mR (124)), some (mI ((l : Nat) : Int)), some (mI ((i : Nat) : Int))] [] (σ)) (fun i => some (some (mI (bi (!fa (fun g => D.testBit g || !decide (3 ≤ (gA c g).1) || decide (farE E (P (gA c g).2.1) (P (gA c g).2.2.toNat) ≤ l + 1)) (c.length - i) i))), σ)) (c.length) (by
    show ev sh (d + 2) 263 2 [some (mR (124)), some (mI ((l : Nat) : Int)), some (mI (((c.length) : Nat) : Int))] [] (σ) = some (some (mI (bi (!fa (fun g => D.testBit g || !decide (3 ≤ (gA c g).1) || decide (farE E (P (gA c g).2.1) (P (gA c g).2.2.toNat) ≤ l + 1)) (c.length - (c.length)) (c.length)))), σ)
    rw [fa_e, e263_2]
    simp (disch := first | assumption | omega | (simp (disch := omega) only [wN, w0, w1]; omega)) only [e263_0, e263_1, e263_3, e263_4, e263_7, e263_8, e263_9, e263_12, e263_13, e263_16, e263_17, e263_20, e263_23, e263_24, e263_25, e263_26, e263_29, e263_32, e263_33, e263_34, e263_35, e263_38, e263_41, e263_42, e263_43, e263_44, e263_47, e263_48, e263_49, e263_52, e263_55, e263_56, kl_I, kl_R, kl_N, kl_L, oSm, oNn, Option.bind_some, wN, if_pos, if_neg, nS, tN, t0, w0, w1, w2, w3, w4, w5, wm1, upA_ne, upA_same, if_true, if_false, Bool.false_eq_true, ra1, rl1, hl]
    rfl) (fun i hi ih => by
    replace ih : ev sh (d + 2) 263 2 [some (mR (124)), some (mI ((l : Nat) : Int)), some (mI (((i + 1) : Nat) : Int))] [] (σ) = some (some (mI (bi (!fa (fun g => D.testBit g || !decide (3 ≤ (gA c g).1) || decide (farE E (P (gA c g).2.1) (P (gA c g).2.2.toNat) ≤ l + 1)) (c.length - (i + 1)) (i + 1)))), σ) := ih
    show ev sh (d + 2) 263 2 [some (mR (124)), some (mI ((l : Nat) : Int)), some (mI ((i : Nat) : Int))] [] (σ) = some (some (mI (bi (!fa (fun g => D.testBit g || !decide (3 ≤ (gA c g).1) || decide (farE E (P (gA c g).2.1) (P (gA c g).2.2.toNat) ≤ l + 1)) (c.length - i) i))), σ)
    have hb := E167 (sh := sh) (d := d + 1) (σ := σ) (b := D) (k := i) (by have := D30 hD2 hc; omega) (by omega)
    have a3 := E173 (d := d) (z := 0) hM hR.1 (by omega) hc hv hi rfl
    rw [fa_s hi, e263_2]
    by_cases e1 : D.testBit i = true
    · rw [e1] at hb
      replace hb : run sh (d + 1) 167 [mI (D : Int), mI (i : Int)] σ = some (some (mI 1), σ) := hb
      simp (disch := first | assumption | omega | (simp (disch := omega) only [wN, w0, w1]; omega)) only [e263_0, e263_1, e263_3, e263_4, e263_7, e263_8, e263_9, e263_12, e263_13, e263_16, e263_17, e263_20, e263_23, e263_24, e263_25, e263_26, e263_29, e263_32, e263_33, e263_34, e263_35, e263_38, e263_41, e263_42, e263_43, e263_44, e263_47, e263_48, e263_49, e263_52, e263_55, e263_56, kl_I, kl_R, kl_N, kl_L, oSm, oNn, Option.bind_some, wN, if_pos, if_neg, nS, tN, t0, w0, w1, w2, w3, w4, w5, wm1, upA_ne, upA_same, if_true, if_false, Bool.false_eq_true, ra1, rl1, hl, hD, hb]
      refine ih.trans ?_
      simp [e1]
    · have e1' : D.testBit i = false := by simpa using e1
      rw [e1'] at hb
      replace hb : run sh (d + 1) 167 [mI (D : Int), mI (i : Int)] σ = some (some (mI 0), σ) := hb
      by_cases e2 : 3 ≤ (gA c i).1
      · rw [if_pos e2] at a3
        have a7 := M237 (d := d) hM hR.1 hc hv hR.2.1 hm hla hL hP hn hi e2
        have bf := farE_le E (P (gA c i).2.1) (P (gA c i).2.2.toNat)
        have wf := wi_id (z := (farE E (P (gA c i).2.1) (P (gA c i).2.2.toNat) : Int) - 1) (by omega) (by omega)
        by_cases e3 : farE E (P (gA c i).2.1) (P (gA c i).2.2.toNat) ≤ l + 1
        · have e3' : ¬ (l : Int) < (farE E (P (gA c i).2.1) (P (gA c i).2.2.toNat) : Int) - 1 := by omega
          simp (disch := first | assumption | omega | (simp (disch := omega) only [wN, w0, w1]; omega)) only [e263_0, e263_1, e263_3, e263_4, e263_7, e263_8, e263_9, e263_12, e263_13, e263_16, e263_17, e263_20, e263_23, e263_24, e263_25, e263_26, e263_29, e263_32, e263_33, e263_34, e263_35, e263_38, e263_41, e263_42, e263_43, e263_44, e263_47, e263_48, e263_49, e263_52, e263_55, e263_56, kl_I, kl_R, kl_N, kl_L, oSm, oNn, Option.bind_some, wN, if_pos, if_neg, nS, tN, t0, w0, w1, w2, w3, w4, w5, wm1, upA_ne, upA_same, if_true, if_false, Bool.false_eq_true, ra1, rl1, hl, hD, hb, a3, ra41, rl41, a7, wf]
          refine ih.trans ?_
          simp [e3]
        · have e3' : (l : Int) < (farE E (P (gA c i).2.1) (P (gA c i).2.2.toNat) : Int) - 1 := by omega
          simp (disch := first | assumption | omega | (simp (disch := omega) only [wN, w0, w1]; omega)) only [e263_0, e263_1, e263_3, e263_4, e263_7, e263_8, e263_9, e263_12, e263_13, e263_16, e263_17, e263_20, e263_23, e263_24, e263_25, e263_26, e263_29, e263_32, e263_33, e263_34, e263_35, e263_38, e263_41, e263_42, e263_43, e263_44, e263_47, e263_48, e263_49, e263_52, e263_55, e263_56, kl_I, kl_R, kl_N, kl_L, oSm, oNn, Option.bind_some, wN, if_pos, if_neg, nS, tN, t0, w0, w1, w2, w3, w4, w5, wm1, upA_ne, upA_same, if_true, if_false, Bool.false_eq_true, ra1, rl1, hl, hD, hb, a3, ra41, rl41, a7, wf]
          simp [e1', e2, e3]
      · rw [if_neg e2] at a3
        simp (disch := first | assumption | omega | (simp (disch := omega) only [wN, w0, w1]; omega)) only [e263_0, e263_1, e263_3, e263_4, e263_7, e263_8, e263_9, e263_12, e263_13, e263_16, e263_17, e263_20, e263_23, e263_24, e263_25, e263_26, e263_29, e263_32, e263_33, e263_34, e263_35, e263_38, e263_41, e263_42, e263_43, e263_44, e263_47, e263_48, e263_49, e263_52, e263_55, e263_56, kl_I, kl_R, kl_N, kl_L, oSm, oNn, Option.bind_some, wN, if_pos, if_neg, nS, tN, t0, w0, w1, w2, w3, w4, w5, wm1, upA_ne, upA_same, if_true, if_false, Bool.false_eq_true, ra1, rl1, hl, hD, hb, a3]
        refine ih.trans ?_
        simp [e2]) 0 (Nat.zero_le _)
  simp (disch := first | assumption | omega | (simp (disch := omega) only [wN, w0, w1]; omega)) only [e263_0, e263_1, e263_3, e263_4, e263_7, e263_8, e263_9, e263_12, e263_13, e263_16, e263_17, e263_20, e263_23, e263_24, e263_25, e263_26, e263_29, e263_32, e263_33, e263_34, e263_35, e263_38, e263_41, e263_42, e263_43, e263_44, e263_47, e263_48, e263_49, e263_52, e263_55, e263_56, kl_I, kl_R, kl_N, kl_L, oSm, oNn, Option.bind_some, wN, if_pos, if_neg, nS, tN, t0, w0, w1, w2, w3, w4, w5, wm1, upA_ne, upA_same, if_true, if_false, Bool.false_eq_true, q263]
  exact F
theorem M264 (hM : MS sh) (hF : FLo σ f n P D) (hf : f < 7) (hn : n ≤ 4) : End (run sh d 264 [mR 124, mI (f : Int)] σ) (fun r σ' => r = none ∧ RV false σ' n P (D, (fun _ => 0), []) ∧ frW 147 147 46 48 σ σ') := by
  have mo := hM.1
  have m160 := hM.2.1
  obtain ⟨ra41, rk41, rl41⟩ := ms41 hM
  obtain ⟨ra53, rk53, rl53⟩ := ms53 hM
  obtain ⟨ra55, rk55, rl55⟩ := ms55 hM
  obtain ⟨h1, h2⟩ := hF
  have L := for_P (4) (fun i => ∀ (σ1 : Mem), ((∀ l, l < i → σ1.1 147 l = stI n P l) ∧ σ1.1 124 48 = (D : Int) ∧ σ1.1 124 46 = 0 ∧ frW 147 147 46 48 σ σ1) → End (ev sh d 264 17 [some (mR (124)), some (mI ((f : Nat) : Int)), some (mI ((i : Nat) : Int))] [] σ1) (fun r σ' => r = none ∧ RV false σ' n P (D, (fun _ => 0), []) ∧ frW 147 147 46 48 σ σ')) (by
    intro σ1  hp
    replace hp : (∀ l, l < (4) → σ1.1 147 l = stI n P l) ∧ σ1.1 124 48 = (D : Int) ∧ σ1.1 124 46 = 0 ∧ frW 147 147 46 48 σ σ1 := hp
    show End (ev sh d 264 17 [some (mR (124)), some (mI ((f : Nat) : Int)), some (mI (((4) : Nat) : Int))] [] σ1) (fun r σ' => r = none ∧ RV false σ' n P (D, (fun _ => 0), []) ∧ frW 147 147 46 48 σ σ')
    obtain ⟨p1, p2, p3, p4⟩ := hp
    rw [e264_17]
    simp (disch := first | assumption | omega | (simp (disch := omega) only [wN, w0, w1]; omega)) only [e264_0, e264_1, e264_2, e264_5, e264_6, e264_7, e264_10, e264_11, e264_12, e264_15, e264_16, e264_18, e264_19, e264_22, e264_23, e264_26, e264_27, e264_28, e264_31, e264_32, e264_33, e264_34, e264_35, e264_36, e264_37, e264_38, e264_41, e264_44, kl_I, kl_R, kl_N, kl_L, oSm, oNn, Option.bind_some, wN, if_pos, if_neg, nS, tN, t0, w0, w1, w2, w3, w4, w5, wm1, upA_ne, upA_same, if_true, if_false, Bool.false_eq_true]
    refine End.of rfl ⟨rfl, ⟨fun y hy => ?_, fun l p q => ?_, p2, fun q => (by cases q), p3, fun j hj => (by cases hj)⟩, p4⟩
    · rw [p1 y (by omega), stI, if_pos hy]
    · rw [p1 l q, stI, if_neg (by omega)]) (fun i hi ih => by
    replace ih : ∀ (σ1 : Mem), ((∀ l, l < (i + 1) → σ1.1 147 l = stI n P l) ∧ σ1.1 124 48 = (D : Int) ∧ σ1.1 124 46 = 0 ∧ frW 147 147 46 48 σ σ1) → End (ev sh d 264 17 [some (mR (124)), some (mI ((f : Nat) : Int)), some (mI (((i + 1) : Nat) : Int))] [] σ1) (fun r σ' => r = none ∧ RV false σ' n P (D, (fun _ => 0), []) ∧ frW 147 147 46 48 σ σ') := ih
    intro σ1  hp
    replace hp : (∀ l, l < i → σ1.1 147 l = stI n P l) ∧ σ1.1 124 48 = (D : Int) ∧ σ1.1 124 46 = 0 ∧ frW 147 147 46 48 σ σ1 := hp
    show End (ev sh d 264 17 [some (mR (124)), some (mI ((f : Nat) : Int)), some (mI ((i : Nat) : Int))] [] σ1) (fun r σ' => r = none ∧ RV false σ' n P (D, (fun _ => 0), []) ∧ frW 147 147 46 48 σ σ')
    obtain ⟨p1, p2, p3, p4⟩ := hp
    have g : σ1.1 156 (4 * f + i) = stI n P i := by rw [(p4.1 156 (by omega) (by omega)).1]; exact h2 i hi
    rw [e264_17]
    simp (disch := first | assumption | omega | (simp (disch := omega) only [wN, w0, w1]; omega)) only [e264_0, e264_1, e264_2, e264_5, e264_6, e264_7, e264_10, e264_11, e264_12, e264_15, e264_16, e264_18, e264_19, e264_22, e264_23, e264_26, e264_27, e264_28, e264_31, e264_32, e264_33, e264_34, e264_35, e264_36, e264_37, e264_38, e264_41, e264_44, kl_I, kl_R, kl_N, kl_L, oSm, oNn, Option.bind_some, wN, if_pos, if_neg, nS, tN, t0, w0, w1, w2, w3, w4, w5, wm1, upA_ne, upA_same, if_true, if_false, Bool.false_eq_true, ra41, rl41, ra55, rl55, n4, ← Int.natCast_add, g]
    refine ih _ ⟨fun l hl => ?_, ?_, ?_, p4.tr (frW.a (a := 147) (by omega) (by omega))⟩
    · simp (disch := omega) only [upA_same]
      by_cases q : l = i
      · rw [q, up1_same]
      · rw [up1_ne q]; exact p1 l (by omega)
    · simp (disch := omega) only [upA_ne]; exact p2
    · simp (disch := omega) only [upA_ne]; exact p3) 0 (Nat.zero_le _)
  simp (disch := first | assumption | omega | (simp (disch := omega) only [wN, w0, w1]; omega)) only [e264_0, e264_1, e264_2, e264_5, e264_6, e264_7, e264_10, e264_11, e264_12, e264_15, e264_16, e264_18, e264_19, e264_22, e264_23, e264_26, e264_27, e264_28, e264_31, e264_32, e264_33, e264_34, e264_35, e264_36, e264_37, e264_38, e264_41, e264_44, kl_I, kl_R, kl_N, kl_L, oSm, oNn, Option.bind_some, wN, if_pos, if_neg, nS, tN, t0, w0, w1, w2, w3, w4, w5, wm1, upA_ne, upA_same, if_true, if_false, Bool.false_eq_true, q264, ra53, rl53, h1]
  refine L _ ⟨fun l hl => by omega, ?_, ?_, ⟨fun b hb h4 => ⟨?_, rfl⟩, fun i hi => ?_⟩⟩
  · simp (disch := omega) only [upA_same, up1_ne, up1_same]
  · simp (disch := omega) only [upA_same, up1_same]
  · simp (disch := omega) only [upA_ne]
  · simp (disch := omega) only [upA_same, up1_ne]
theorem M265 (hM : MS sh) (hV : RV b σ n P x) (hf : f < 7) (hn : n ≤ 4) : End (run sh d 265 [mR 124, mI (f : Int)] σ) (fun r σ' => r = none ∧ FLo σ' f n P x.1 ∧ σ'.1 153 f = 0 ∧ lwF f σ σ' ∧ frW 153 156 1 0 σ σ' ∧ σ'.1 155 = σ.1 155) := by
  have mo := hM.1
  have m160 := hM.2.1
  obtain ⟨ra41, rk41, rl41⟩ := ms41 hM
  obtain ⟨ra52, rk52, rl52⟩ := ms52 hM
  obtain ⟨ra53, rk53, rl53⟩ := ms53 hM
  obtain ⟨ra55, rk55, rl55⟩ := ms55 hM
  obtain ⟨v1, v2, v3, v4, v5, v6⟩ := hV
  have L := for_P (4) (fun i => ∀ (σ1 : Mem), ((∀ l, l < i → σ1.1 156 (4 * f + l) = stI n P l) ∧ σ1.1 154 f = (x.1 : Int) ∧ lwF f σ σ1 ∧ frW 153 156 1 0 σ σ1 ∧ σ1.1 155 = σ.1 155) → End (ev sh d 265 12 [some (mR (124)), some (mI ((f : Nat) : Int)), some (mI ((i : Nat) : Int))] [] σ1) (fun r σ' => r = none ∧ FLo σ' f n P x.1 ∧ σ'.1 153 f = 0 ∧ lwF f σ σ' ∧ frW 153 156 1 0 σ σ' ∧ σ'.1 155 = σ.1 155)) (by
    intro σ1  hp
    replace hp : (∀ l, l < (4) → σ1.1 156 (4 * f + l) = stI n P l) ∧ σ1.1 154 f = (x.1 : Int) ∧ lwF f σ σ1 ∧ frW 153 156 1 0 σ σ1 ∧ σ1.1 155 = σ.1 155 := hp
    show End (ev sh d 265 12 [some (mR (124)), some (mI ((f : Nat) : Int)), some (mI (((4) : Nat) : Int))] [] σ1) (fun r σ' => r = none ∧ FLo σ' f n P x.1 ∧ σ'.1 153 f = 0 ∧ lwF f σ σ' ∧ frW 153 156 1 0 σ σ' ∧ σ'.1 155 = σ.1 155)
    obtain ⟨p1, p2, p3, p4, p5⟩ := hp
    rw [e265_12]
    simp (disch := first | assumption | omega | (simp (disch := omega) only [wN, w0, w1]; omega)) only [e265_0, e265_1, e265_4, e265_5, e265_6, e265_9, e265_10, e265_11, e265_13, e265_14, e265_17, e265_18, e265_21, e265_22, e265_23, e265_24, e265_25, e265_26, e265_27, e265_30, e265_31, e265_32, e265_33, e265_36, e265_39, e265_40, e265_43, e265_44, e265_45, e265_46, kl_I, kl_R, kl_N, kl_L, oSm, oNn, Option.bind_some, wN, if_pos, if_neg, nS, tN, t0, w0, w1, w2, w3, w4, w5, wm1, upA_ne, upA_same, if_true, if_false, Bool.false_eq_true, ra52, rl52]
    refine End.of rfl ⟨rfl, ⟨?_, fun l hl => ?_⟩, ?_, fun j hj => ?_, p4.tr (frW.a (a := 153) (by omega) (by omega)), ?_⟩
    · simp (disch := omega) only [upA_ne]; exact p2
    · simp (disch := omega) only [upA_ne]; exact p1 l hl
    · simp (disch := omega) only [upA_same, up1_same]
    · simp (disch := omega) only [upA_same, upA_ne, up1_ne]
      exact p3 j hj
    · simp (disch := omega) only [upA_ne]; exact p5) (fun i hi ih => by
    replace ih : ∀ (σ1 : Mem), ((∀ l, l < (i + 1) → σ1.1 156 (4 * f + l) = stI n P l) ∧ σ1.1 154 f = (x.1 : Int) ∧ lwF f σ σ1 ∧ frW 153 156 1 0 σ σ1 ∧ σ1.1 155 = σ.1 155) → End (ev sh d 265 12 [some (mR (124)), some (mI ((f : Nat) : Int)), some (mI (((i + 1) : Nat) : Int))] [] σ1) (fun r σ' => r = none ∧ FLo σ' f n P x.1 ∧ σ'.1 153 f = 0 ∧ lwF f σ σ' ∧ frW 153 156 1 0 σ σ' ∧ σ'.1 155 = σ.1 155) := ih
    intro σ1  hp
    replace hp : (∀ l, l < i → σ1.1 156 (4 * f + l) = stI n P l) ∧ σ1.1 154 f = (x.1 : Int) ∧ lwF f σ σ1 ∧ frW 153 156 1 0 σ σ1 ∧ σ1.1 155 = σ.1 155 := hp
    show End (ev sh d 265 12 [some (mR (124)), some (mI ((f : Nat) : Int)), some (mI ((i : Nat) : Int))] [] σ1) (fun r σ' => r = none ∧ FLo σ' f n P x.1 ∧ σ'.1 153 f = 0 ∧ lwF f σ σ' ∧ frW 153 156 1 0 σ σ' ∧ σ'.1 155 = σ.1 155)
    obtain ⟨p1, p2, p3, p4, p5⟩ := hp
    have g : σ1.1 147 i = stI n P i := by
      rw [(p4.1 147 (by omega) (by omega)).1]
      by_cases q : i < n
      · rw [v1 i q, stI, if_pos q]
      · rw [v2 i (by omega) hi, stI, if_neg q]
    rw [e265_12]
    simp (disch := first | assumption | omega | (simp (disch := omega) only [wN, w0, w1]; omega)) only [e265_0, e265_1, e265_4, e265_5, e265_6, e265_9, e265_10, e265_11, e265_13, e265_14, e265_17, e265_18, e265_21, e265_22, e265_23, e265_24, e265_25, e265_26, e265_27, e265_30, e265_31, e265_32, e265_33, e265_36, e265_39, e265_40, e265_43, e265_44, e265_45, e265_46, kl_I, kl_R, kl_N, kl_L, oSm, oNn, Option.bind_some, wN, if_pos, if_neg, nS, tN, t0, w0, w1, w2, w3, w4, w5, wm1, upA_ne, upA_same, if_true, if_false, Bool.false_eq_true, ra41, rl41, ra55, rl55, n4, ← Int.natCast_add, g]
    refine ih _ ⟨fun l hl => ?_, ?_, fun j hj => ?_, p4.tr (frW.a (a := 156) (by omega) (by omega)), ?_⟩
    · simp (disch := omega) only [upA_same]
      by_cases q : l = i
      · rw [q, up1_same]
      · rw [up1_ne (by omega)]; exact p1 l (by omega)
    · simp (disch := omega) only [upA_ne]; exact p2
    · obtain ⟨w1, w2, w3, w4⟩ := p3 j hj
      simp (disch := omega) only [upA_ne, upA_same]
      refine ⟨w1, w2, w3, fun l hl => ?_⟩
      rw [up1_ne (by omega)]; exact w4 l hl
    · simp (disch := omega) only [upA_ne]; exact p5) 0 (Nat.zero_le _)
  simp (disch := first | assumption | omega | (simp (disch := omega) only [wN, w0, w1]; omega)) only [e265_0, e265_1, e265_4, e265_5, e265_6, e265_9, e265_10, e265_11, e265_13, e265_14, e265_17, e265_18, e265_21, e265_22, e265_23, e265_24, e265_25, e265_26, e265_27, e265_30, e265_31, e265_32, e265_33, e265_36, e265_39, e265_40, e265_43, e265_44, e265_45, e265_46, kl_I, kl_R, kl_N, kl_L, oSm, oNn, Option.bind_some, wN, if_pos, if_neg, nS, tN, t0, w0, w1, w2, w3, w4, w5, wm1, upA_ne, upA_same, if_true, if_false, Bool.false_eq_true, q265, ra53, rl53, v3]
  refine L _ ⟨fun l hl => by omega, ?_, fun j hj => ?_, frW.a (a := 154) (by omega) (by omega), ?_⟩
  · simp (disch := omega) only [upA_same, up1_same]
  · simp (disch := omega) only [upA_same, upA_ne, up1_ne]
    exact ⟨trivial, trivial, trivial, fun _ _ => trivial⟩
  · simp (disch := omega) only [upA_ne]
theorem M266 {e : Nat} {last : Int} (hM : MS sh) (hR : RC σ n m c E A) (hvE : okE m E) (h10 : E.length ≤ 10) (hn : n ≤ 4) (hm : m ≤ 5) (hL : HLm σ 147 n P) (hP : okP n m P) (hf : f < 7) (he : e < E.length) (hl0 : f = 0 → last = -1) (hl1 : 0 < f → σ.1 155 f = last) (hlr : -1 ≤ last ∧ last < 10) : run sh d 266 [mR 124, mI (f : Int), mI (e : Int)] σ = some (some (mI (bi (decide ((e : Int) = last) || nlB n P (eA E e)))), σ) := by
  have mo := hM.1
  have m160 := hM.2.1
  obtain ⟨ra2, rk2, rl2⟩ := ms2 hM
  obtain ⟨ra3, rk3, rl3⟩ := ms3 hM
  obtain ⟨ra41, rk41, rl41⟩ := ms41 hM
  obtain ⟨ra54, rk54, rl54⟩ := ms54 hM
  have wl := wi_id (z := last) (by omega) (by omega)
  have hN := hR.2.2.2.2.2
  obtain ⟨g1, g2⟩ := hR.2.2.2.1 e he
  have hk := hvE.at he
  unfold nlB
  have F := for_dn (fun i => ev sh d 266 18 [some (mR (124)), some (mI ((f : Nat) : Int)), some (mI ((e : Nat) : Int)), some (mI ((i : Nat) : Int))] [] (σ)) (fun i => some (some (mI (bi (fa (fun l => !decide (P l = (eA E e).1) && !decide (P l = (eA E e).2)) (n - i) i))), σ)) (n) (by
    show ev sh d 266 18 [some (mR (124)), some (mI ((f : Nat) : Int)), some (mI ((e : Nat) : Int)), some (mI (((n) : Nat) : Int))] [] (σ) = some (some (mI (bi (fa (fun l => !decide (P l = (eA E e).1) && !decide (P l = (eA E e).2)) (n - (n)) (n)))), σ)
    rw [fa_e, e266_18]
    simp (disch := first | assumption | omega | (simp (disch := omega) only [wN, w0, w1]; omega)) only [e266_0, e266_1, e266_4, e266_5, e266_8, e266_9, e266_10, e266_11, e266_14, e266_15, e266_16, e266_17, e266_19, e266_20, e266_23, e266_26, e266_27, e266_30, e266_31, e266_32, e266_33, e266_36, e266_37, e266_38, e266_41, e266_42, e266_45, e266_46, e266_47, e266_48, e266_51, e266_52, e266_53, e266_56, e266_57, e266_58, e266_61, e266_64, e266_65, kl_I, kl_R, kl_N, kl_L, oSm, oNn, Option.bind_some, wN, if_pos, if_neg, nS, tN, t0, w0, w1, w2, w3, w4, w5, wm1, upA_ne, upA_same, if_true, if_false, Bool.false_eq_true, hN]
    rfl) (fun i hi ih => by
    replace ih : ev sh d 266 18 [some (mR (124)), some (mI ((f : Nat) : Int)), some (mI ((e : Nat) : Int)), some (mI (((i + 1) : Nat) : Int))] [] (σ) = some (some (mI (bi (fa (fun l => !decide (P l = (eA E e).1) && !decide (P l = (eA E e).2)) (n - (i + 1)) (i + 1)))), σ) := ih
    show ev sh d 266 18 [some (mR (124)), some (mI ((f : Nat) : Int)), some (mI ((e : Nat) : Int)), some (mI ((i : Nat) : Int))] [] (σ) = some (some (mI (bi (fa (fun l => !decide (P l = (eA E e).1) && !decide (P l = (eA E e).2)) (n - i) i))), σ)
    have g := hL i hi
    have pi := hP.1 i hi
    rw [fa_s hi, e266_18]
    by_cases e1 : P i = (eA E e).1
    · rw [e1] at g
      simp (disch := first | assumption | omega | (simp (disch := omega) only [wN, w0, w1]; omega)) only [e266_0, e266_1, e266_4, e266_5, e266_8, e266_9, e266_10, e266_11, e266_14, e266_15, e266_16, e266_17, e266_19, e266_20, e266_23, e266_26, e266_27, e266_30, e266_31, e266_32, e266_33, e266_36, e266_37, e266_38, e266_41, e266_42, e266_45, e266_46, e266_47, e266_48, e266_51, e266_52, e266_53, e266_56, e266_57, e266_58, e266_61, e266_64, e266_65, kl_I, kl_R, kl_N, kl_L, oSm, oNn, Option.bind_some, wN, if_pos, if_neg, nS, tN, t0, w0, w1, w2, w3, w4, w5, wm1, upA_ne, upA_same, if_true, if_false, Bool.false_eq_true, hN, ra41, rl41, ra2, rl2, ra3, rl3, g, g1]
      simp [e1]
    · by_cases e2 : P i = (eA E e).2
      · rw [e2] at g e1
        simp (disch := first | assumption | omega | (simp (disch := omega) only [wN, w0, w1]; omega)) only [e266_0, e266_1, e266_4, e266_5, e266_8, e266_9, e266_10, e266_11, e266_14, e266_15, e266_16, e266_17, e266_19, e266_20, e266_23, e266_26, e266_27, e266_30, e266_31, e266_32, e266_33, e266_36, e266_37, e266_38, e266_41, e266_42, e266_45, e266_46, e266_47, e266_48, e266_51, e266_52, e266_53, e266_56, e266_57, e266_58, e266_61, e266_64, e266_65, kl_I, kl_R, kl_N, kl_L, oSm, oNn, Option.bind_some, wN, if_pos, if_neg, nS, tN, t0, w0, w1, w2, w3, w4, w5, wm1, upA_ne, upA_same, if_true, if_false, Bool.false_eq_true, hN, ra41, rl41, ra2, rl2, ra3, rl3, g, g1, g2]
        simp [e2]
      · simp (disch := first | assumption | omega | (simp (disch := omega) only [wN, w0, w1]; omega)) only [e266_0, e266_1, e266_4, e266_5, e266_8, e266_9, e266_10, e266_11, e266_14, e266_15, e266_16, e266_17, e266_19, e266_20, e266_23, e266_26, e266_27, e266_30, e266_31, e266_32, e266_33, e266_36, e266_37, e266_38, e266_41, e266_42, e266_45, e266_46, e266_47, e266_48, e266_51, e266_52, e266_53, e266_56, e266_57, e266_58, e266_61, e266_64, e266_65, kl_I, kl_R, kl_N, kl_L, oSm, oNn, Option.bind_some, wN, if_pos, if_neg, nS, tN, t0, w0, w1, w2, w3, w4, w5, wm1, upA_ne, upA_same, if_true, if_false, Bool.false_eq_true, hN, ra41, rl41, ra2, rl2, ra3, rl3, g, g1, g2]
        refine ih.trans ?_
        simp [e1, e2]) 0 (Nat.zero_le _)
  by_cases f0 : f = 0
  · have ll := hl0 f0
    rw [decide_eq_false (by omega), Bool.false_or]
    subst f0
    simp (disch := first | assumption | omega | (simp (disch := omega) only [wN, w0, w1]; omega)) only [e266_0, e266_1, e266_4, e266_5, e266_8, e266_9, e266_10, e266_11, e266_14, e266_15, e266_16, e266_17, e266_19, e266_20, e266_23, e266_26, e266_27, e266_30, e266_31, e266_32, e266_33, e266_36, e266_37, e266_38, e266_41, e266_42, e266_45, e266_46, e266_47, e266_48, e266_51, e266_52, e266_53, e266_56, e266_57, e266_58, e266_61, e266_64, e266_65, kl_I, kl_R, kl_N, kl_L, oSm, oNn, Option.bind_some, wN, if_pos, if_neg, nS, tN, t0, w0, w1, w2, w3, w4, w5, wm1, upA_ne, upA_same, if_true, if_false, Bool.false_eq_true, q266]
    exact F
  · have ll := hl1 (by omega)
    by_cases e3 : (e : Int) = last
    · rw [decide_eq_true e3, Bool.true_or]
      rw [← e3] at ll
      simp (disch := first | assumption | omega | (simp (disch := omega) only [wN, w0, w1]; omega)) only [e266_0, e266_1, e266_4, e266_5, e266_8, e266_9, e266_10, e266_11, e266_14, e266_15, e266_16, e266_17, e266_19, e266_20, e266_23, e266_26, e266_27, e266_30, e266_31, e266_32, e266_33, e266_36, e266_37, e266_38, e266_41, e266_42, e266_45, e266_46, e266_47, e266_48, e266_51, e266_52, e266_53, e266_56, e266_57, e266_58, e266_61, e266_64, e266_65, kl_I, kl_R, kl_N, kl_L, oSm, oNn, Option.bind_some, wN, if_pos, if_neg, nS, tN, t0, w0, w1, w2, w3, w4, w5, wm1, upA_ne, upA_same, if_true, if_false, Bool.false_eq_true, q266, ra54, rl54, ll]
      rfl
    · rw [decide_eq_false e3, Bool.false_or]
      have e4 : ¬ last = (e : Int) := fun q => e3 q.symm
      simp (disch := first | assumption | omega | (simp (disch := omega) only [wN, w0, w1]; omega)) only [e266_0, e266_1, e266_4, e266_5, e266_8, e266_9, e266_10, e266_11, e266_14, e266_15, e266_16, e266_17, e266_19, e266_20, e266_23, e266_26, e266_27, e266_30, e266_31, e266_32, e266_33, e266_36, e266_37, e266_38, e266_41, e266_42, e266_45, e266_46, e266_47, e266_48, e266_51, e266_52, e266_53, e266_56, e266_57, e266_58, e266_61, e266_64, e266_65, kl_I, kl_R, kl_N, kl_L, oSm, oNn, Option.bind_some, wN, if_pos, if_neg, nS, tN, t0, w0, w1, w2, w3, w4, w5, wm1, upA_ne, upA_same, if_true, if_false, Bool.false_eq_true, q266, ra54, rl54, ll, wl]
      exact F
end OG

