/-! ===== the reference: depths and times, place by place ===== -/
/-- the last end at a place, of the gates below i -/
def mxP (T : Nat → Nat) (S : List Gt) (p : Nat) : Nat → Nat := mxx (fun h => if (gm (gA S h)).testBit p = true then enS false T S h else 0)
theorem gm_bit {q : Gt} {p : Nat} : (gm q).testBit p = true ↔ q.2.1 = p ∨ (3 ≤ q.1 ∧ q.2.2.toNat = p) := by
  unfold gm
  by_cases h : q.1 < 3
  · rw [if_pos h, Nat.testBit_two_pow, decide_eq_true_eq]
    constructor
    · intro e; exact Or.inl e
    · rintro (e | e)
      · exact e
      · omega
  · rw [if_neg h, Nat.testBit_or, Bool.or_eq_true, Nat.testBit_two_pow, Nat.testBit_two_pow, decide_eq_true_eq, decide_eq_true_eq]
    constructor
    · rintro (e | e)
      · exact Or.inl e
      · exact Or.inr ⟨by omega, e⟩
    · rintro (e | e)
      · exact Or.inl e
      · exact Or.inr e.2
theorem wt_bit {q r : Gt} : wtB false q r = true ↔ ∃ p, (gm q).testBit p = true ∧ (gm r).testBit p = true := by
  unfold wtB
  rw [Bool.false_and, Bool.not_false, Bool.and_true, decide_eq_true_eq]
  constructor
  · intro h
    obtain ⟨p, hp⟩ := Nat.exists_testBit_of_ne_zero h
    rw [Nat.testBit_and, Bool.and_eq_true] at hp
    exact ⟨p, hp⟩
  · rintro ⟨p, h1, h2⟩ h
    have := congrArg (fun N => N.testBit p) h
    simp only [Nat.testBit_and, h1, h2, Nat.zero_testBit, Bool.and_self] at this
    cases this
theorem mxP_le {T : Nat → Nat} {S : List Gt} {p i : Nat} (h : (gm (gA S i)).testBit p = true) : mxP T S p i ≤ bgS false T S i := by
  rw [bgS_eq]
  refine mxx_le i fun h' hh => ?_
  by_cases e : (gm (gA S h')).testBit p = true
  · rw [if_pos e]
    have w : wtB false (gA S i) (gA S h') = true := wt_bit.mpr ⟨p, h, e⟩
    have := mxx_ge (f := bgF false T S i (bgS false T S)) i h' hh
    rw [bgF, if_pos w] at this
    exact this
  · rw [if_neg e]; exact Nat.zero_le _
theorem mxP_s {T : Nat → Nat} {S : List Gt} {p i : Nat} : mxP T S p (i + 1) = if (gm (gA S i)).testBit p = true then enS false T S i else mxP T S p i := by
  show max (mxP T S p i) (if (gm (gA S i)).testBit p = true then enS false T S i else 0) = _
  by_cases e : (gm (gA S i)).testBit p = true
  · rw [if_pos e, if_pos e]
    have := mxP_le (T := T) e
    have : bgS false T S i ≤ enS false T S i := Nat.le_add_right _ _
    omega
  · rw [if_neg e, if_neg e]; omega
theorem bg_mxP {T : Nat → Nat} {S : List Gt} {i : Nat} : bgS false T S i = max (mxP T S (gA S i).2.1 i) (if 3 ≤ (gA S i).1 then mxP T S (gA S i).2.2.toNat i else 0) := by
  apply Nat.le_antisymm
  · rw [bgS_eq]
    refine mxx_le i fun h hh => ?_
    unfold bgF
    split
    · rename_i w
      obtain ⟨p, w1, w2⟩ := wt_bit.mp w
      have g : ∀ y, y = p → enS false T S h ≤ mxP T S y i := fun y hy => by
        have := mxx_ge (f := fun h => if (gm (gA S h)).testBit y = true then enS false T S h else 0) i h hh
        rw [if_pos (by rw [hy]; exact w2)] at this
        exact this
      have e : bgS false T S h + T (gA S h).1 = enS false T S h := rfl
      rw [e]
      rcases gm_bit.mp w1 with q | ⟨q1, q2⟩
      · exact Nat.le_trans (g _ q) (Nat.le_max_left _ _)
      · rw [if_pos q1]
        exact Nat.le_trans (g _ q2) (Nat.le_max_right _ _)
    · exact Nat.zero_le _
  · refine Nat.max_le.mpr ⟨mxP_le (gm_bit.mpr (Or.inl rfl)), ?_⟩
    split
    · rename_i q; exact mxP_le (gm_bit.mpr (Or.inr ⟨q, rfl⟩))
    · exact Nat.zero_le _
section OA
variable {sh : Shp} {d m n : Nat} {σ : Mem} {P : Nat → Nat} {b : Bool} {x : Nat × (Nat → Nat) × List Sp} {T : Nat → Nat}
/-- the cells by places below i -/
def HDp (σ : Mem) (q : Nat) (T : Nat → Nat) (S : List Gt) (i : Nat) : Prop := ∀ p, p < 5 → σ.1 q p = (mxP T S p i : Int)
theorem HDp.s1 {q i : Nat} {S : List Gt} {τ : Nat → Nat → Int} (h : HDp σ q T S i) (h3 : ¬ 3 ≤ (gA S i).1) : HDp (upA σ.1 q (up1 (σ.1 q) (gA S i).2.1 (enS false T S i : Int)), τ) q T S (i + 1) := fun p hp => by
  simp only [upA_same]
  rw [mxP_s]
  by_cases e : p = (gA S i).2.1
  · rw [e, up1_same, if_pos (gm_bit.mpr (Or.inl rfl))]
  · rw [up1_ne e, if_neg (fun g => by rcases gm_bit.mp g with g | g
                                      · exact e g.symm
                                      · exact h3 g.1)]
    exact h p hp
theorem HDp.s2 {q i y : Nat} {S : List Gt} {τ : Nat → Nat → Int} (h : HDp σ q T S i) (h3 : 3 ≤ (gA S i).1) (hy : (gA S i).2.2.toNat = y) : HDp (upA (upA σ.1 q (up1 (σ.1 q) (gA S i).2.1 (enS false T S i : Int))) q (up1 (up1 (σ.1 q) (gA S i).2.1 (enS false T S i : Int)) y (enS false T S i : Int)), τ) q T S (i + 1) := fun p hp => by
  simp only [upA_same]
  rw [mxP_s]
  by_cases e2 : p = y
  · rw [e2, up1_same, if_pos (gm_bit.mpr (Or.inr ⟨h3, hy⟩))]
  · rw [up1_ne e2]
    by_cases e : p = (gA S i).2.1
    · rw [e, up1_same, if_pos (gm_bit.mpr (Or.inl rfl))]
    · rw [up1_ne e, if_neg (fun g => by rcases gm_bit.mp g with g | g
                                        · exact e g.symm
                                        · exact e2 (by rw [← hy]; exact g.2.symm))]
      exact h p hp
theorem mxP_b {S : List Gt} (hT : ∀ k, k ≤ 5 → T k ≤ 20) (hv : okC m S) {p : Nat} : ∀ i, i ≤ S.length → mxP T S p i ≤ 20 * S.length := fun i hi => mxx_le i fun h hh => by
  split
  · have := enS_le (lo := false) hT hv (show h < S.length by omega)
    omega
  · omega
theorem M258 (hM : MS sh) (hV : RV b σ n P x) (hv : okC m (x.2.2.map Prod.fst)) (hm : m ≤ 5) (h70 : x.2.2.length ≤ 70) : End (run sh (d + 1) 258 [mR 124] σ) (fun r σ' => r = some (mI (mxx (enS false (fun _ => 1) (x.2.2.map Prod.fst)) (x.2.2.map Prod.fst).length : Int)) ∧ frW 152 152 1 0 σ σ') := by
  have mo := hM.1
  have m160 := hM.2.1
  obtain ⟨ra44, rk44, rl44⟩ := ms44 hM
  obtain ⟨ra51, rk51, rl51⟩ := ms51 hM
  obtain ⟨_, _, _, _, h46, hst⟩ := hV
  have lm : (x.2.2.map Prod.fst).length = x.2.2.length := by simp
  have hT : ∀ k, k ≤ 5 → (fun _ : Nat => (1 : Nat)) k ≤ 20 := fun _ _ => by show 1 ≤ 20; omega
  let G := fun (r : Option MV) (σ' : Mem) => r = some (mI (mxx (enS false (fun _ => 1) (x.2.2.map Prod.fst)) (x.2.2.map Prod.fst).length : Int)) ∧ frW 152 152 1 0 σ σ'
  have main : ∀ σ1, HDp σ1 152 (fun _ => 1) (x.2.2.map Prod.fst) 0 → frW 152 152 1 0 σ σ1 → End (ev sh (d + 1) 258 24 [some (mR (124)), some (mI ((0 : Nat) : Int)), some (mI ((0 : Nat) : Int)), none, none, none] [] σ1) G := by
    intro σ1 hD hf
    have L := for_P (x.2.2.length) (fun i => ∀ (σ2 : Mem) (v3 v4 v5 : Option MV), (HDp σ2 152 (fun _ => 1) (x.2.2.map Prod.fst) i ∧ frW 152 152 1 0 σ σ2) → End (ev sh (d + 1) 258 24 [some (mR (124)), some (mI ((mxx (enS false (fun _ => 1) (x.2.2.map Prod.fst)) i : Nat) : Int)), some (mI ((i : Nat) : Int)), v3, v4, v5] [] σ2) (G)) (by
      intro σ2 v3 v4 v5 hp
      replace hp : HDp σ2 152 (fun _ => 1) (x.2.2.map Prod.fst) (x.2.2.length) ∧ frW 152 152 1 0 σ σ2 := hp
      show End (ev sh (d + 1) 258 24 [some (mR (124)), some (mI ((mxx (enS false (fun _ => 1) (x.2.2.map Prod.fst)) (x.2.2.length) : Nat) : Int)), some (mI (((x.2.2.length) : Nat) : Int)), v3, v4, v5] [] σ2) (G)
      have k46 : σ2.1 124 46 = (x.2.2.length : Int) := by rw [hp.2.2 46 (by omega)]; exact h46
      rw [e258_24]
      simp (disch := first | assumption | omega | (simp (disch := omega) only [wN, w0, w1]; omega)) only [e258_0, e258_1, e258_2, e258_3, e258_4, e258_7, e258_8, e258_11, e258_12, e258_13, e258_14, e258_17, e258_20, e258_21, e258_22, e258_23, e258_25, e258_26, e258_29, e258_32, e258_33, e258_36, e258_37, e258_38, e258_39, e258_40, e258_41, e258_42, e258_43, e258_44, e258_47, e258_48, e258_49, e258_50, e258_51, e258_52, e258_53, e258_55, e258_56, e258_57, e258_60, e258_61, e258_62, e258_64, e258_65, e258_68, e258_69, e258_72, e258_73, e258_76, e258_78, e258_79, e258_82, e258_83, e258_85, e258_86, e258_89, e258_90, e258_92, e258_93, e258_95, e258_96, e258_99, e258_100, e258_103, e258_105, e258_107, e258_108, e258_109, e258_111, e258_114, e258_115, e258_118, e258_121, e258_122, kl_I, kl_R, kl_N, kl_L, oSm, oNn, Option.bind_some, wN, if_pos, if_neg, nS, tN, t0, w0, w1, w2, w3, w4, w5, wm1, upA_ne, upA_same, if_true, if_false, Bool.false_eq_true, k46]
      exact End.of rfl ⟨by rw [lm], hp.2⟩) (fun i hi ih => by
      replace ih : ∀ (σ2 : Mem) (v3 v4 v5 : Option MV), (HDp σ2 152 (fun _ => 1) (x.2.2.map Prod.fst) (i + 1) ∧ frW 152 152 1 0 σ σ2) → End (ev sh (d + 1) 258 24 [some (mR (124)), some (mI ((mxx (enS false (fun _ => 1) (x.2.2.map Prod.fst)) (i + 1) : Nat) : Int)), some (mI (((i + 1) : Nat) : Int)), v3, v4, v5] [] σ2) (G) := ih
      intro σ2 v3 v4 v5 hp
      replace hp : HDp σ2 152 (fun _ => 1) (x.2.2.map Prod.fst) i ∧ frW 152 152 1 0 σ σ2 := hp
      show End (ev sh (d + 1) 258 24 [some (mR (124)), some (mI ((mxx (enS false (fun _ => 1) (x.2.2.map Prod.fst)) i : Nat) : Int)), some (mI ((i : Nat) : Int)), v3, v4, v5] [] σ2) (G)
      obtain ⟨q1, q2⟩ := hp
      have k46 : σ2.1 124 46 = (x.2.2.length : Int) := by rw [q2.2 46 (by omega)]; exact h46
      have k150 : σ2.1 150 = σ.1 150 := (q2.1 150 (by omega) (by omega)).1
      obtain ⟨s0, s1, s2, s3⟩ := hst i hi
      rw [← k150] at s0 s1 s2 s3
      obtain ⟨u1, u2, u3, u4, u5⟩ := hv.at (j := i) (by rw [lm]; exact hi)
      have ga : gA (x.2.2.map Prod.fst) i = (sA x.2.2 i).1 := gA_map _ _
      have bm := bg_mxP (T := fun _ => 1) (S := x.2.2.map Prod.fst) (i := i)
      have mb := fun p => mxP_b (T := fun _ => 1) (S := x.2.2.map Prod.fst) (p := p) hT hv i (by omega)
      have eb := enS_le (lo := false) (T := fun _ => 1) hT hv (show i < (x.2.2.map Prod.fst).length by omega)
      have en : enS false (fun _ => 1) (x.2.2.map Prod.fst) i = 1 + bgS false (fun _ => 1) (x.2.2.map Prod.fst) i := Nat.add_comm _ _
      have mm : mxx (enS false (fun _ => 1) (x.2.2.map Prod.fst)) (i + 1) = max (mxx (enS false (fun _ => 1) (x.2.2.map Prod.fst)) i) (enS false (fun _ => 1) (x.2.2.map Prod.fst) i) := rfl
      have mxl : mxx (enS false (fun _ => 1) (x.2.2.map Prod.fst)) i ≤ 2000 := mxx_le i fun h hh => by
        have := enS_le (lo := false) (T := fun _ => 1) hT hv (show h < (x.2.2.map Prod.fst).length by omega)
        omega
      have e6 := fun σ => E166n (sh := sh) (d := d) (σ := σ) (p := mxx (enS false (fun _ => 1) (x.2.2.map Prod.fst)) i) (q := enS false (fun _ => 1) (x.2.2.map Prod.fst) i) (by omega) (by omega)
      rw [← ga] at s0 s1 s2
      have c1 := q1 (gA (x.2.2.map Prod.fst) i).2.1 (by omega)
      have mb1 := mb (gA (x.2.2.map Prod.fst) i).2.1
      rw [rb] at s2
      rw [e258_24]
      by_cases h3 : 3 ≤ (gA (x.2.2.map Prod.fst) i).1
      · have u6 := u5 h3
        obtain ⟨y, hy⟩ : ∃ y : Nat, (gA (x.2.2.map Prod.fst) i).2.2 = (y : Int) := ⟨(gA (x.2.2.map Prod.fst) i).2.2.toNat, by omega⟩
        have hy2 : (gA (x.2.2.map Prod.fst) i).2.2.toNat = y := by omega
        rw [if_neg (by omega), hy] at s2
        rw [if_pos h3, hy2] at bm
        have c2 := q1 y (by omega)
        have mb2 := mb y
        have t2 := fun τ => q1.s2 (i := i) (y := y) (τ := τ) h3 hy2
        generalize x.2.2.map Prod.fst = S at *
        have e7 := E166n (sh := sh) (d := d) (σ := σ2) (p := mxP (fun _ => 1) S (gA S i).2.1 i) (q := mxP (fun _ => 1) S y i) (by omega) (by omega)
        rw [← bm] at e7
        have en2 : (1 : Int) + (bgS false (fun _ => 1) S i : Int) = (enS false (fun _ => 1) S i : Int) := by omega
        rw [mm] at ih
        simp (disch := first | assumption | omega | (simp (disch := omega) only [wN, w0, w1]; omega)) only [e258_0, e258_1, e258_2, e258_3, e258_4, e258_7, e258_8, e258_11, e258_12, e258_13, e258_14, e258_17, e258_20, e258_21, e258_22, e258_23, e258_25, e258_26, e258_29, e258_32, e258_33, e258_36, e258_37, e258_38, e258_39, e258_40, e258_41, e258_42, e258_43, e258_44, e258_47, e258_48, e258_49, e258_50, e258_51, e258_52, e258_53, e258_55, e258_56, e258_57, e258_60, e258_61, e258_62, e258_64, e258_65, e258_68, e258_69, e258_72, e258_73, e258_76, e258_78, e258_79, e258_82, e258_83, e258_85, e258_86, e258_89, e258_90, e258_92, e258_93, e258_95, e258_96, e258_99, e258_100, e258_103, e258_105, e258_107, e258_108, e258_109, e258_111, e258_114, e258_115, e258_118, e258_121, e258_122, kl_I, kl_R, kl_N, kl_L, oSm, oNn, Option.bind_some, wN, if_pos, if_neg, nS, tN, t0, w0, w1, w2, w3, w4, w5, wm1, upA_ne, upA_same, if_true, if_false, Bool.false_eq_true, k46, ra44, rl44, ra51, rl51, n4, ← Int.natCast_add, nS2, s1, s2, c1, c2, e7, en2, e6]
        exact ih _ _ _ _ ⟨t2 _, (q2.tr (frW.a (a := 152) (by omega) (by omega))).tr ((frW.a (a := 152) (by omega) (by omega)))⟩
      · rw [if_pos (by omega)] at s2
        rw [if_neg h3] at bm
        have t2 := fun τ => q1.s1 (i := i) (τ := τ) h3
        generalize x.2.2.map Prod.fst = S at *
        have e7 := E166n (sh := sh) (d := d) (σ := σ2) (p := mxP (fun _ => 1) S (gA S i).2.1 i) (q := 0) (by omega) (by omega)
        rw [← bm] at e7
        replace e7 : run sh d 166 [mI (mxP (fun _ => 1) S (gA S i).2.1 i : Int), mI 0] σ2 = some (some (mI (bgS false (fun _ => 1) S i : Int)), σ2) := e7
        have en2 : (1 : Int) + (bgS false (fun _ => 1) S i : Int) = (enS false (fun _ => 1) S i : Int) := by omega
        rw [mm] at ih
        simp (disch := first | assumption | omega | (simp (disch := omega) only [wN, w0, w1]; omega)) only [e258_0, e258_1, e258_2, e258_3, e258_4, e258_7, e258_8, e258_11, e258_12, e258_13, e258_14, e258_17, e258_20, e258_21, e258_22, e258_23, e258_25, e258_26, e258_29, e258_32, e258_33, e258_36, e258_37, e258_38, e258_39, e258_40, e258_41, e258_42, e258_43, e258_44, e258_47, e258_48, e258_49, e258_50, e258_51, e258_52, e258_53, e258_55, e258_56, e258_57, e258_60, e258_61, e258_62, e258_64, e258_65, e258_68, e258_69, e258_72, e258_73, e258_76, e258_78, e258_79, e258_82, e258_83, e258_85, e258_86, e258_89, e258_90, e258_92, e258_93, e258_95, e258_96, e258_99, e258_100, e258_103, e258_105, e258_107, e258_108, e258_109, e258_111, e258_114, e258_115, e258_118, e258_121, e258_122, kl_I, kl_R, kl_N, kl_L, oSm, oNn, Option.bind_some, wN, if_pos, if_neg, nS, tN, t0, w0, w1, w2, w3, w4, w5, wm1, upA_ne, upA_same, if_true, if_false, Bool.false_eq_true, k46, ra44, rl44, ra51, rl51, n4, ← Int.natCast_add, nS2, s1, s2, c1, e7, en2, e6]
        exact ih _ _ _ _ ⟨t2 _, q2.tr (frW.a (a := 152) (by omega) (by omega))⟩) 0 (Nat.zero_le _)
    exact L σ1 _ _ _ ⟨hD, hf⟩
  have L := for_P (5) (fun i => ∀ (σ1 : Mem), ((∀ p, p < i → σ1.1 152 p = 0) ∧ frW 152 152 1 0 σ σ1) → End (ev sh (d + 1) 258 2 [some (mR (124)), some (mI ((i : Nat) : Int)), none, none, none, none] [] σ1) (G)) (by
    intro σ1  hp
    replace hp : (∀ p, p < (5) → σ1.1 152 p = 0) ∧ frW 152 152 1 0 σ σ1 := hp
    show End (ev sh (d + 1) 258 2 [some (mR (124)), some (mI (((5) : Nat) : Int)), none, none, none, none] [] σ1) (G)
    rw [e258_2]
    simp (disch := first | assumption | omega | (simp (disch := omega) only [wN, w0, w1]; omega)) only [e258_0, e258_1, e258_3, e258_4, e258_7, e258_8, e258_11, e258_12, e258_13, e258_14, e258_17, e258_20, e258_21, e258_22, e258_23, e258_25, e258_26, e258_29, e258_32, e258_33, e258_36, e258_37, e258_38, e258_39, e258_40, e258_41, e258_42, e258_43, e258_44, e258_47, e258_48, e258_49, e258_50, e258_51, e258_52, e258_53, e258_55, e258_56, e258_57, e258_60, e258_61, e258_62, e258_64, e258_65, e258_68, e258_69, e258_72, e258_73, e258_76, e258_78, e258_79, e258_82, e258_83, e258_85, e258_86, e258_89, e258_90, e258_92, e258_93, e258_95, e258_96, e258_99, e258_100, e258_103, e258_105, e258_107, e258_108, e258_109, e258_111, e258_114, e258_115, e258_118, e258_121, e258_122, kl_I, kl_R, kl_N, kl_L, oSm, oNn, Option.bind_some, wN, if_pos, if_neg, nS, tN, t0, w0, w1, w2, w3, w4, w5, wm1, upA_ne, upA_same, if_true, if_false, Bool.false_eq_true]
    exact main _ (fun p hp5 => hp.1 p hp5) hp.2) (fun i hi ih => by
    replace ih : ∀ (σ1 : Mem), ((∀ p, p < (i + 1) → σ1.1 152 p = 0) ∧ frW 152 152 1 0 σ σ1) → End (ev sh (d + 1) 258 2 [some (mR (124)), some (mI (((i + 1) : Nat) : Int)), none, none, none, none] [] σ1) (G) := ih
    intro σ1  hp
    replace hp : (∀ p, p < i → σ1.1 152 p = 0) ∧ frW 152 152 1 0 σ σ1 := hp
    show End (ev sh (d + 1) 258 2 [some (mR (124)), some (mI ((i : Nat) : Int)), none, none, none, none] [] σ1) (G)
    rw [e258_2]
    simp (disch := first | assumption | omega | (simp (disch := omega) only [wN, w0, w1]; omega)) only [e258_0, e258_1, e258_3, e258_4, e258_7, e258_8, e258_11, e258_12, e258_13, e258_14, e258_17, e258_20, e258_21, e258_22, e258_23, e258_25, e258_26, e258_29, e258_32, e258_33, e258_36, e258_37, e258_38, e258_39, e258_40, e258_41, e258_42, e258_43, e258_44, e258_47, e258_48, e258_49, e258_50, e258_51, e258_52, e258_53, e258_55, e258_56, e258_57, e258_60, e258_61, e258_62, e258_64, e258_65, e258_68, e258_69, e258_72, e258_73, e258_76, e258_78, e258_79, e258_82, e258_83, e258_85, e258_86, e258_89, e258_90, e258_92, e258_93, e258_95, e258_96, e258_99, e258_100, e258_103, e258_105, e258_107, e258_108, e258_109, e258_111, e258_114, e258_115, e258_118, e258_121, e258_122, kl_I, kl_R, kl_N, kl_L, oSm, oNn, Option.bind_some, wN, if_pos, if_neg, nS, tN, t0, w0, w1, w2, w3, w4, w5, wm1, upA_ne, upA_same, if_true, if_false, Bool.false_eq_true, ra51, rl51]
    refine ih _ ⟨fun p hp5 => ?_, hp.2.tr (frW.a (a := 152) (by omega) (by omega))⟩
    simp (disch := omega) only [upA_same]
    by_cases q : p = i
    · rw [q, up1_same]
    · rw [up1_ne q]; exact hp.1 p (by omega)) 0 (Nat.zero_le _)
  simp (disch := first | assumption | omega | (simp (disch := omega) only [wN, w0, w1]; omega)) only [e258_0, e258_1, e258_3, e258_4, e258_7, e258_8, e258_11, e258_12, e258_13, e258_14, e258_17, e258_20, e258_21, e258_22, e258_23, e258_25, e258_26, e258_29, e258_32, e258_33, e258_36, e258_37, e258_38, e258_39, e258_40, e258_41, e258_42, e258_43, e258_44, e258_47, e258_48, e258_49, e258_50, e258_51, e258_52, e258_53, e258_55, e258_56, e258_57, e258_60, e258_61, e258_62, e258_64, e258_65, e258_68, e258_69, e258_72, e258_73, e258_76, e258_78, e258_79, e258_82, e258_83, e258_85, e258_86, e258_89, e258_90, e258_92, e258_93, e258_95, e258_96, e258_99, e258_100, e258_103, e258_105, e258_107, e258_108, e258_109, e258_111, e258_114, e258_115, e258_118, e258_121, e258_122, kl_I, kl_R, kl_N, kl_L, oSm, oNn, Option.bind_some, wN, if_pos, if_neg, nS, tN, t0, w0, w1, w2, w3, w4, w5, wm1, upA_ne, upA_same, if_true, if_false, Bool.false_eq_true, q258]
  exact L σ ⟨fun p hp => by omega, frW.rf⟩
end OA

