/-! ===== Router: the cheapest edge ===== -/
/-- the look lowest of two lines, of those not in T, below g: as bits, and how many -/
def nxS (c : List Gt) (T look : Nat) : Nat → Nat × Nat
  | 0 => (0, 0)
  | g + 1 => if (nxS c T look g).2 < look ∧ ¬ T.testBit g = true ∧ 3 ≤ (gA c g).1 then ((nxS c T look g).1 ||| 2 ^ g, (nxS c T look g).2 + 1) else nxS c T look g
theorem nxS_lt (c : List Gt) (T look : Nat) : ∀ g, (nxS c T look g).1 < 2 ^ g ∧ (nxS c T look g).2 ≤ look ∧ (nxS c T look g).2 ≤ g
  | 0 => by simp [nxS]
  | g + 1 => by
    have ⟨h1, h2, h3⟩ := nxS_lt c T look g
    have h4 : 2 ^ (g + 1) = 2 * 2 ^ g := by rw [Nat.pow_succ]; omega
    rw [nxS]
    split
    · exact ⟨Nat.or_lt_two_pow (by omega) (Nat.pow_lt_pow_right (by omega) (by omega)), by simp only; omega, by simp only; omega⟩
    · exact ⟨by omega, h2, by omega⟩
theorem nxS_st (c : List Gt) (T look : Nat) {i : Nat} (h : look ≤ (nxS c T look i).2) : ∀ k, nxS c T look (i + k) = nxS c T look i
  | 0 => rfl
  | k + 1 => by
    have ih := nxS_st c T look h k
    rw [← Nat.add_assoc, nxS, ih, if_neg (by omega)]
theorem nxS_two (c : List Gt) (T look : Nat) : ∀ g i, (nxS c T look g).1.testBit i = true → i < g ∧ 3 ≤ (gA c i).1 ∧ ¬ T.testBit i = true
  | 0, i, h => by simp [nxS] at h
  | g + 1, i, h => by
    rw [nxS] at h
    split at h
    · rename_i h2
      simp only at h
      rw [Nat.testBit_or, Nat.testBit_two_pow] at h
      by_cases e : g = i
      · subst e; exact ⟨by omega, h2.2.2, h2.2.1⟩
      · simp [e] at h
        have := nxS_two c T look g i h
        exact ⟨by omega, this.2⟩
    · have := nxS_two c T look g i h
      exact ⟨by omega, this.2⟩
/-- the places of the gates of a set -/
def plS (c : List Gt) (P : Nat → Nat) (S : Nat) : Nat → Nat
  | 0 => 0
  | g + 1 => if S.testBit g = true then plS c P S g ||| 2 ^ P (gA c g).2.1 ||| 2 ^ P (gA c g).2.2.toNat else plS c P S g
theorem plS_lt {c : List Gt} {P : Nat → Nat} {S n m : Nat} (hP : okP n m P) (hm : m ≤ 5) (hv : okC n c) : ∀ g, g ≤ c.length → (∀ i, i < g → S.testBit i = true → 3 ≤ (gA c i).1) → plS c P S g < 32
  | 0, _, _ => by simp [plS]
  | g + 1, hg, h2 => by
    have ih := plS_lt (S := S) hP hm hv g (by omega) (fun i hi => h2 i (by omega))
    rw [plS]
    split
    · rename_i hb
      have h3 := h2 g (by omega) hb
      have v := hv.at (show g < c.length by omega)
      have v5 := v.2.2.2.2 h3
      have p1 := hP.1 _ v.2.1
      have p2 := hP.1 (gA c g).2.2.toNat (by omega)
      have q1 : 2 ^ P (gA c g).2.1 < 2 ^ 5 := Nat.pow_lt_pow_right (by omega) (by omega)
      have q2 : 2 ^ P (gA c g).2.2.toNat < 2 ^ 5 := Nat.pow_lt_pow_right (by omega) (by omega)
      exact Nat.or_lt_two_pow (n := 5) (Nat.or_lt_two_pow (n := 5) ih q1) q2
    · exact ih
/-- what a swap on an edge costs -/
def csS (F : Nat → Nat → Nat) (c : List Gt) (E : List Ed) (P w : Nat → Nat) (fr nx : Nat) (e : Nat) : Nat :=
  (faS F c (swP (eA E e).1 (eA E e).2 P) fr c.length * (2 * max (pcD nx 30) 1) + faS F c (swP (eA E e).1 (eA E e).2 P) nx c.length * pcD fr 30) * (10 + max (w (eA E e).1) (w (eA E e).2))
def hdB (E : List Ed) (H e : Nat) : Bool := H.testBit (eA E e).1 || H.testBit (eA E e).2
/-- the least cost below e, and its edge -/
def beS (F : Nat → Nat → Nat) (c : List Gt) (E : List Ed) (P w : Nat → Nat) (fr nx H : Nat) : Nat → Nat × Int
  | 0 => (1000000000, -1)
  | e + 1 => if hdB E H e = true ∧ csS F c E P w fr nx e < (beS F c E P w fr nx H e).1 then (csS F c E P w fr nx e, (e : Int)) else beS F c E P w fr nx H e
theorem swP_swP {p q : Nat} (h : p ≠ q) (P : Nat → Nat) : swP p q (swP p q P) = P := by
  funext x
  unfold swP
  by_cases h1 : P x = p
  · simp [h1, h, Ne.symm h]
  · by_cases h2 : P x = q
    · simp [h2, Ne.symm h]
    · simp [h1, h2]
section ROC
variable {sh : Shp} {d o n m : Nat} {σ : Mem} {S : List Sp} {w : Nat → Nat} {c : List Gt} {E : List Ed} {A P : Nat → Nat} {D t look T : Nat}
theorem Z95 (hs : roS sh o) (hK : HKs σ (o + 1) c m E A) (hM : HKm σ (o + 1) n P D) (hk : okK n m c E) (hD : D < 2 ^ c.length) (hT : T < 2 ^ c.length) (hlook : look ≤ 5) : run sh (d + 2) 95 [mR o, mI (T : Int), mI (look : Int)] σ = some (some (mI ((nxS c (T ||| D) look c.length).1 : Int)), σ) := by
  obtain ⟨ho, r0, r1, r2, r3, hcr, hgl, k1, l1, k2, l2, hw2⟩ := id hs
  obtain ⟨hco, c0, c1, c2, c3, hcg, hcB, hcL, ck, cl, cw⟩ := id hcr
  obtain ⟨hn, hm, hE, h30, hv, hvE⟩ := id hk
  have hgo := hcg.1
  have hl := hK.1.1
  have hd := hM.2
  have p30 : 2 ^ c.length ≤ 2 ^ 30 := Nat.pow_le_pow_right (by omega) h30
  have xo := xor_nn (a := T) (b := D) (by omega) (by omega)
  have hTD : T ||| D < 2 ^ c.length := Nat.or_lt_two_pow hT hD
  have L := for_P (c.length) (fun i => ev sh (d + 2) 95 8 [some (mR (o)), some (mI ((T : Nat) : Int)), some (mI ((look : Nat) : Int)), some (mI (((nxS c (T ||| D) look i).1 : Nat) : Int)), some (mI (((nxS c (T ||| D) look i).2 : Nat) : Int)), some (mI ((i : Nat) : Int))] [] (σ) = some (some (mI ((nxS c (T ||| D) look c.length).1 : Int)), σ)) (by
    show ev sh (d + 2) 95 8 [some (mR (o)), some (mI ((T : Nat) : Int)), some (mI ((look : Nat) : Int)), some (mI (((nxS c (T ||| D) look (c.length)).1 : Nat) : Int)), some (mI (((nxS c (T ||| D) look (c.length)).2 : Nat) : Int)), some (mI (((c.length) : Nat) : Int))] [] (σ) = some (some (mI ((nxS c (T ||| D) look c.length).1 : Int)), σ)
    have hlt := nxS_lt c (T ||| D) look c.length
    rw [e95_8]
    simp (disch := first | assumption | omega | (simp (disch := omega) only [wN, w0, w1]; omega)) only [e95_0, e95_1, e95_2, e95_3, e95_5, e95_6, e95_10, e95_11, e95_14, e95_17, e95_20, e95_23, e95_25, e95_26, e95_29, e95_30, e95_31, e95_34, e95_37, e95_38, e95_40, e95_41, e95_42, e95_43, e95_46, e95_47, e95_50, e95_53, e95_55, e95_58, e95_61, e95_62, e95_63, e95_65, e95_66, e95_67, e95_68, e95_71, e95_74, e95_77, e95_78, kl_I, kl_R, kl_N, kl_L, oSm, oNn, Option.bind_some, wN, if_pos, if_neg, nS, tN, t0, w0, w1, w2, w3, w4, w5, wm1, upA_ne, upA_same, if_true, if_false, Bool.false_eq_true, r0, c0, hl]) (fun i hi ih => by
    replace ih : ev sh (d + 2) 95 8 [some (mR (o)), some (mI ((T : Nat) : Int)), some (mI ((look : Nat) : Int)), some (mI (((nxS c (T ||| D) look (i + 1)).1 : Nat) : Int)), some (mI (((nxS c (T ||| D) look (i + 1)).2 : Nat) : Int)), some (mI (((i + 1) : Nat) : Int))] [] (σ) = some (some (mI ((nxS c (T ||| D) look c.length).1 : Int)), σ) := ih
    show ev sh (d + 2) 95 8 [some (mR (o)), some (mI ((T : Nat) : Int)), some (mI ((look : Nat) : Int)), some (mI (((nxS c (T ||| D) look i).1 : Nat) : Int)), some (mI (((nxS c (T ||| D) look i).2 : Nat) : Int)), some (mI ((i : Nat) : Int))] [] (σ) = some (some (mI ((nxS c (T ||| D) look c.length).1 : Int)), σ)
    obtain ⟨n1, n2, n3⟩ := nxS_lt c (T ||| D) look i
    have p29 : 2 ^ i < 2 ^ 30 := Nat.pow_lt_pow_right (by omega) (by omega)
    have xb := xbit (a := T ||| D) (k := i) (by omega) (by omega)
    have e50 := L50 (d := d + 1) hcg hK.1 h30 (by omega) hi hv
    have x1 := xshl_1 (k := i) (by omega)
    have x2 := xor_nn (a := (nxS c (T ||| D) look i).1) (b := 2 ^ i) (by omega) (by omega)
    rw [e95_8]
    by_cases hfull : (nxS c (T ||| D) look i).2 < look
    · by_cases hb : (T ||| D).testBit i = true
      · have en : nxS c (T ||| D) look (i + 1) = nxS c (T ||| D) look i := by rw [nxS, if_neg (fun z => z.2.1 hb)]
        rw [en] at ih
        simp (disch := first | assumption | omega | (simp (disch := omega) only [wN, w0, w1]; omega)) only [e95_0, e95_1, e95_2, e95_3, e95_5, e95_6, e95_10, e95_11, e95_14, e95_17, e95_20, e95_23, e95_25, e95_26, e95_29, e95_30, e95_31, e95_34, e95_37, e95_38, e95_40, e95_41, e95_42, e95_43, e95_46, e95_47, e95_50, e95_53, e95_55, e95_58, e95_61, e95_62, e95_63, e95_65, e95_66, e95_67, e95_68, e95_71, e95_74, e95_77, e95_78, kl_I, kl_R, kl_N, kl_L, oSm, oNn, Option.bind_some, wN, if_pos, if_neg, nS, tN, t0, w0, w1, w2, w3, w4, w5, wm1, upA_ne, upA_same, if_true, if_false, Bool.false_eq_true, r0, c0, hl, hd, xo, xb, hb]
        exact ih
      · by_cases h3 : 3 ≤ (gA c i).1
        · have en : nxS c (T ||| D) look (i + 1) = ((nxS c (T ||| D) look i).1 ||| 2 ^ i, (nxS c (T ||| D) look i).2 + 1) := by rw [nxS, if_pos ⟨hfull, hb, h3⟩]
          rw [en] at ih
          simp (disch := first | assumption | omega | (simp (disch := omega) only [wN, w0, w1]; omega)) only [e95_0, e95_1, e95_2, e95_3, e95_5, e95_6, e95_10, e95_11, e95_14, e95_17, e95_20, e95_23, e95_25, e95_26, e95_29, e95_30, e95_31, e95_34, e95_37, e95_38, e95_40, e95_41, e95_42, e95_43, e95_46, e95_47, e95_50, e95_53, e95_55, e95_58, e95_61, e95_62, e95_63, e95_65, e95_66, e95_67, e95_68, e95_71, e95_74, e95_77, e95_78, kl_I, kl_R, kl_N, kl_L, oSm, oNn, Option.bind_some, wN, if_pos, if_neg, nS, tN, t0, w0, w1, w2, w3, w4, w5, wm1, upA_ne, upA_same, if_true, if_false, Bool.false_eq_true, r0, c0, hl, hd, xo, xb, hb, e50, h3, x1, x2]
          exact ih
        · have en : nxS c (T ||| D) look (i + 1) = nxS c (T ||| D) look i := by rw [nxS, if_neg (fun z => h3 z.2.2)]
          rw [en] at ih
          simp (disch := first | assumption | omega | (simp (disch := omega) only [wN, w0, w1]; omega)) only [e95_0, e95_1, e95_2, e95_3, e95_5, e95_6, e95_10, e95_11, e95_14, e95_17, e95_20, e95_23, e95_25, e95_26, e95_29, e95_30, e95_31, e95_34, e95_37, e95_38, e95_40, e95_41, e95_42, e95_43, e95_46, e95_47, e95_50, e95_53, e95_55, e95_58, e95_61, e95_62, e95_63, e95_65, e95_66, e95_67, e95_68, e95_71, e95_74, e95_77, e95_78, kl_I, kl_R, kl_N, kl_L, oSm, oNn, Option.bind_some, wN, if_pos, if_neg, nS, tN, t0, w0, w1, w2, w3, w4, w5, wm1, upA_ne, upA_same, if_true, if_false, Bool.false_eq_true, r0, c0, hl, hd, xo, xb, hb, e50, h3]
          exact ih
    · have en := nxS_st c (T ||| D) look (i := i) (by omega) (c.length - i)
      rw [show i + (c.length - i) = c.length by omega] at en
      simp (disch := first | assumption | omega | (simp (disch := omega) only [wN, w0, w1]; omega)) only [e95_0, e95_1, e95_2, e95_3, e95_5, e95_6, e95_10, e95_11, e95_14, e95_17, e95_20, e95_23, e95_25, e95_26, e95_29, e95_30, e95_31, e95_34, e95_37, e95_38, e95_40, e95_41, e95_42, e95_43, e95_46, e95_47, e95_50, e95_53, e95_55, e95_58, e95_61, e95_62, e95_63, e95_65, e95_66, e95_67, e95_68, e95_71, e95_74, e95_77, e95_78, kl_I, kl_R, kl_N, kl_L, oSm, oNn, Option.bind_some, wN, if_pos, if_neg, nS, tN, t0, w0, w1, w2, w3, w4, w5, wm1, upA_ne, upA_same, if_true, if_false, Bool.false_eq_true, r0, c0, hl, en]) 0 (Nat.zero_le _)
  simp (disch := first | assumption | omega | (simp (disch := omega) only [wN, w0, w1]; omega)) only [e95_0, e95_1, e95_2, e95_3, e95_5, e95_6, e95_10, e95_11, e95_14, e95_17, e95_20, e95_23, e95_25, e95_26, e95_29, e95_30, e95_31, e95_34, e95_37, e95_38, e95_40, e95_41, e95_42, e95_43, e95_46, e95_47, e95_50, e95_53, e95_55, e95_58, e95_61, e95_62, e95_63, e95_65, e95_66, e95_67, e95_68, e95_71, e95_74, e95_77, e95_78, kl_I, kl_R, kl_N, kl_L, oSm, oNn, Option.bind_some, wN, if_pos, if_neg, nS, tN, t0, w0, w1, w2, w3, w4, w5, wm1, upA_ne, upA_same, if_true, if_false, Bool.false_eq_true, q95]
  exact L
theorem Z96 (hs : roS sh o) (hK : HKs σ (o + 1) c m E A) (hM : HKm σ (o + 1) n P D) (hk : okK n m c E) (hP : okP n m P) (hT : T < 2 ^ c.length) (h2 : ∀ i, i < c.length → T.testBit i = true → 3 ≤ (gA c i).1) : run sh (d + 2) 96 [mR o, mI (T : Int)] σ = some (some (mI (plS c P T c.length : Int)), σ) := by
  obtain ⟨ho, r0, r1, r2, r3, hcr, hgl, k1, l1, k2, l2, hw2⟩ := id hs
  obtain ⟨hco, c0, c1, c2, c3, hcg, hcB, hcL, ck, cl, cw⟩ := id hcr
  obtain ⟨hn, hm, hE, h30, hv, hvE⟩ := id hk
  have hgo := hcg.1
  have hlo := hcL.1
  have hl := hK.1.1
  have p30 : 2 ^ c.length ≤ 2 ^ 30 := Nat.pow_le_pow_right (by omega) h30
  have L := for_up (fun i => ev sh (d + 2) 96 13 [some (mR (o)), some (mI ((T : Nat) : Int)), some (mR ((o + 1 + 1))), some (mI ((plS c P T i : Nat) : Int)), some (mI ((i : Nat) : Int))] [] (σ)) (c.length) (fun i hi => by
    show ev sh (d + 2) 96 13 [some (mR (o)), some (mI ((T : Nat) : Int)), some (mR ((o + 1 + 1))), some (mI ((plS c P T i : Nat) : Int)), some (mI ((i : Nat) : Int))] [] (σ) = ev sh (d + 2) 96 13 [some (mR (o)), some (mI ((T : Nat) : Int)), some (mR ((o + 1 + 1))), some (mI ((plS c P T (i + 1) : Nat) : Int)), some (mI (((i + 1) : Nat) : Int))] [] (σ)
    have xb := xbit (a := T) (k := i) (by omega) (by omega)
    have hlt := plS_lt (S := T) hP hm hv i (by omega) (fun j hj => h2 j (by omega))
    rw [e96_13]
    by_cases hb : T.testBit i = true
    · have h3 := h2 i hi hb
      have v := hv.at hi
      have v5 := v.2.2.2.2 h3
      obtain ⟨u, hu⟩ : ∃ u : Nat, (gA c i).2.2 = (u : Int) := ⟨(gA c i).2.2.toNat, by omega⟩
      have e47 := L47 (d := d + 1) hcg hK.1 h30 (by omega) hi
      have e48 := L48 (d := d + 1) hcg hK.1 h30 (by omega) hi
      rw [hu] at e48 v5
      have p1 := hP.1 _ v.2.1
      have p2 := hP.1 u (by omega)
      have q1 : 2 ^ P (gA c i).2.1 < 2 ^ 5 := Nat.pow_lt_pow_right (by omega) (by omega)
      have q2 : 2 ^ P u < 2 ^ 5 := Nat.pow_lt_pow_right (by omega) (by omega)
      have e77 := Y77 (d := d) hcL hM.1 hn v.2.1
      have e77b := Y77 (d := d) hcL hM.1 hn (show u < n by omega)
      have x1 := xshl_1 (k := P (gA c i).2.1) (by omega)
      have x2 := xshl_1 (k := P u) (by omega)
      have x3 := xor_nn (a := plS c P T i) (b := 2 ^ P (gA c i).2.1) (by omega) (by omega)
      have hor : plS c P T i ||| 2 ^ P (gA c i).2.1 < 2 ^ 5 := Nat.or_lt_two_pow (by omega) q1
      have x4 := xor_nn (a := plS c P T i ||| 2 ^ P (gA c i).2.1) (b := 2 ^ P u) (by omega) (by omega)
      have e : plS c P T (i + 1) = plS c P T i ||| 2 ^ P (gA c i).2.1 ||| 2 ^ P u := by rw [plS, if_pos hb, hu, tN]
      simp (disch := first | assumption | omega | (simp (disch := omega) only [wN, w0, w1]; omega)) only [e96_0, e96_1, e96_4, e96_7, e96_8, e96_9, e96_10, e96_11, e96_15, e96_16, e96_19, e96_22, e96_23, e96_25, e96_26, e96_27, e96_28, e96_31, e96_32, e96_33, e96_34, e96_37, e96_40, e96_41, e96_43, e96_46, e96_49, e96_50, e96_51, e96_52, e96_53, e96_54, e96_55, e96_58, e96_61, e96_62, e96_64, e96_67, e96_70, e96_71, e96_72, e96_73, e96_76, e96_79, e96_80, kl_I, kl_R, kl_N, kl_L, oSm, oNn, Option.bind_some, wN, if_pos, if_neg, nS, tN, t0, w0, w1, w2, w3, w4, w5, wm1, upA_ne, upA_same, if_true, if_false, Bool.false_eq_true, hl, xb, hb, c2, r0, e47, e48, e77, e77b, x1, x2, x3, x4, e]
    · have e : plS c P T (i + 1) = plS c P T i := by rw [plS, if_neg hb]
      simp (disch := first | assumption | omega | (simp (disch := omega) only [wN, w0, w1]; omega)) only [e96_0, e96_1, e96_4, e96_7, e96_8, e96_9, e96_10, e96_11, e96_15, e96_16, e96_19, e96_22, e96_23, e96_25, e96_26, e96_27, e96_28, e96_31, e96_32, e96_33, e96_34, e96_37, e96_40, e96_41, e96_43, e96_46, e96_49, e96_50, e96_51, e96_52, e96_53, e96_54, e96_55, e96_58, e96_61, e96_62, e96_64, e96_67, e96_70, e96_71, e96_72, e96_73, e96_76, e96_79, e96_80, kl_I, kl_R, kl_N, kl_L, oSm, oNn, Option.bind_some, wN, if_pos, if_neg, nS, tN, t0, w0, w1, w2, w3, w4, w5, wm1, upA_ne, upA_same, if_true, if_false, Bool.false_eq_true, hl, xb, hb, e]) 0 (Nat.zero_le _)
  simp (disch := first | assumption | omega | (simp (disch := omega) only [wN, w0, w1]; omega)) only [e96_0, e96_1, e96_4, e96_7, e96_8, e96_9, e96_10, e96_11, e96_15, e96_16, e96_19, e96_22, e96_23, e96_25, e96_26, e96_27, e96_28, e96_31, e96_32, e96_33, e96_34, e96_37, e96_40, e96_41, e96_43, e96_46, e96_49, e96_50, e96_51, e96_52, e96_53, e96_54, e96_55, e96_58, e96_61, e96_62, e96_64, e96_67, e96_70, e96_71, e96_72, e96_73, e96_76, e96_79, e96_80, kl_I, kl_R, kl_N, kl_L, oSm, oNn, Option.bind_some, wN, if_pos, if_neg, nS, tN, t0, w0, w1, w2, w3, w4, w5, wm1, upA_ne, upA_same, if_true, if_false, Bool.false_eq_true, q96, r0, c0]
  refine L.trans ?_
  show ev sh (d + 2) 96 13 [some (mR (o)), some (mI ((T : Nat) : Int)), some (mR ((o + 1 + 1))), some (mI ((plS c P T c.length : Nat) : Int)), some (mI ((c.length : Nat) : Int))] [] σ = _
  rw [e96_13]
  simp (disch := first | assumption | omega | (simp (disch := omega) only [wN, w0, w1]; omega)) only [e96_0, e96_1, e96_4, e96_7, e96_8, e96_9, e96_10, e96_11, e96_15, e96_16, e96_19, e96_22, e96_23, e96_25, e96_26, e96_27, e96_28, e96_31, e96_32, e96_33, e96_34, e96_37, e96_40, e96_41, e96_43, e96_46, e96_49, e96_50, e96_51, e96_52, e96_53, e96_54, e96_55, e96_58, e96_61, e96_62, e96_64, e96_67, e96_70, e96_71, e96_72, e96_73, e96_76, e96_79, e96_80, kl_I, kl_R, kl_N, kl_L, oSm, oNn, Option.bind_some, wN, if_pos, if_neg, nS, tN, t0, w0, w1, w2, w3, w4, w5, wm1, upA_ne, upA_same, if_true, if_false, Bool.false_eq_true, hl]
theorem faS_le {F : Nat → Nat → Nat} {S : Nat} (hF : ∀ p, p < m → ∀ q, q < m → F p q ≤ 99) (hP : okP n m P) (hm : m ≤ 5) (hv : okC n c) (h2 : ∀ i, i < c.length → S.testBit i = true → 3 ≤ (gA c i).1) : ∀ i, i ≤ c.length → faS F c P S i ≤ 99 * i
  | 0, _ => Nat.le_refl _
  | i + 1, hi => by
    have ih := faS_le hF hP hm hv h2 i (by omega)
    rw [faS]
    split
    · rename_i hb
      have h3 := h2 i (by omega) hb
      have v := hv.at (show i < c.length by omega)
      have v5 := v.2.2.2.2 h3
      have p1 := hP.1 _ v.2.1
      have p2 := hP.1 (gA c i).2.2.toNat (by omega)
      have := hF (P (gA c i).2.1) (by omega) (P (gA c i).2.2.toNat) (by omega)
      omega
    · omega
end ROC

