/-! ===== the reference: how long what is routed lasts ===== -/
section OB
variable {sh : Shp} {d m n : Nat} {σ : Mem} {P : Nat → Nat} {b : Bool} {x : Nat × (Nat → Nat) × List Sp} {T : Nat → Nat}
theorem M275 (hM : MS sh) (hTm : HT sh σ 157 T) (hV : RV b σ n P x) (hv : okC m (x.2.2.map Prod.fst)) (hm : m ≤ 5) (h70 : x.2.2.length ≤ 70) : End (run sh (d + 1) 275 [mR 124] σ) (fun r σ' => r = some (mI (mxx (enS false T (x.2.2.map Prod.fst)) (x.2.2.map Prod.fst).length : Int)) ∧ frW 159 159 1 0 σ σ') := by
  have mo := hM.1
  have m160 := hM.2.1
  obtain ⟨ra44, rk44, rl44⟩ := ms44 hM
  obtain ⟨ra56, rk56, rl56⟩ := ms56 hM
  obtain ⟨ra58, rk58, rl58⟩ := ms58 hM
  obtain ⟨_, _, _, _, h46, hst⟩ := hV
  have lm : (x.2.2.map Prod.fst).length = x.2.2.length := by simp
  have hT : ∀ k, k ≤ 5 → T k ≤ 20 := fun k hk => (hTm.2.2 k hk).2
  let G := fun (r : Option MV) (σ' : Mem) => r = some (mI (mxx (enS false T (x.2.2.map Prod.fst)) (x.2.2.map Prod.fst).length : Int)) ∧ frW 159 159 1 0 σ σ'
  have main : ∀ σ1, HDp σ1 159 T (x.2.2.map Prod.fst) 0 → frW 159 159 1 0 σ σ1 → End (ev sh (d + 1) 275 24 [some (mR (124)), some (mI ((0 : Nat) : Int)), some (mI ((0 : Nat) : Int)), none, none, none] [] σ1) G := by
    intro σ1 hD hf
    have L := for_P (x.2.2.length) (fun i => ∀ (σ2 : Mem) (v3 v4 v5 : Option MV), (HDp σ2 159 T (x.2.2.map Prod.fst) i ∧ frW 159 159 1 0 σ σ2) → End (ev sh (d + 1) 275 24 [some (mR (124)), some (mI ((mxx (enS false T (x.2.2.map Prod.fst)) i : Nat) : Int)), some (mI ((i : Nat) : Int)), v3, v4, v5] [] σ2) (G)) (by
      intro σ2 v3 v4 v5 hp
      replace hp : HDp σ2 159 T (x.2.2.map Prod.fst) (x.2.2.length) ∧ frW 159 159 1 0 σ σ2 := hp
      show End (ev sh (d + 1) 275 24 [some (mR (124)), some (mI ((mxx (enS false T (x.2.2.map Prod.fst)) (x.2.2.length) : Nat) : Int)), some (mI (((x.2.2.length) : Nat) : Int)), v3, v4, v5] [] σ2) (G)
      have k46 : σ2.1 124 46 = (x.2.2.length : Int) := by rw [hp.2.2 46 (by omega)]; exact h46
      rw [e275_24]
      simp (disch := first | assumption | omega | (simp (disch := omega) only [wN, w0, w1]; omega)) only [e275_0, e275_1, e275_2, e275_3, e275_4, e275_7, e275_8, e275_11, e275_12, e275_13, e275_14, e275_17, e275_20, e275_21, e275_22, e275_23, e275_25, e275_26, e275_29, e275_32, e275_33, e275_36, e275_37, e275_38, e275_39, e275_40, e275_41, e275_42, e275_43, e275_44, e275_47, e275_48, e275_49, e275_50, e275_51, e275_52, e275_53, e275_55, e275_56, e275_59, e275_60, e275_63, e275_64, e275_65, e275_66, e275_67, e275_68, e275_69, e275_72, e275_73, e275_74, e275_76, e275_77, e275_80, e275_81, e275_84, e275_85, e275_88, e275_90, e275_91, e275_94, e275_95, e275_97, e275_98, e275_101, e275_102, e275_104, e275_105, e275_107, e275_108, e275_111, e275_112, e275_115, e275_117, e275_119, e275_120, e275_121, e275_123, e275_126, e275_127, e275_130, e275_133, e275_134, kl_I, kl_R, kl_N, kl_L, oSm, oNn, Option.bind_some, wN, if_pos, if_neg, nS, tN, t0, w0, w1, w2, w3, w4, w5, wm1, upA_ne, upA_same, if_true, if_false, Bool.false_eq_true, k46]
      exact End.of rfl ⟨by rw [lm], hp.2⟩) (fun i hi ih => by
      replace ih : ∀ (σ2 : Mem) (v3 v4 v5 : Option MV), (HDp σ2 159 T (x.2.2.map Prod.fst) (i + 1) ∧ frW 159 159 1 0 σ σ2) → End (ev sh (d + 1) 275 24 [some (mR (124)), some (mI ((mxx (enS false T (x.2.2.map Prod.fst)) (i + 1) : Nat) : Int)), some (mI (((i + 1) : Nat) : Int)), v3, v4, v5] [] σ2) (G) := ih
      intro σ2 v3 v4 v5 hp
      replace hp : HDp σ2 159 T (x.2.2.map Prod.fst) i ∧ frW 159 159 1 0 σ σ2 := hp
      show End (ev sh (d + 1) 275 24 [some (mR (124)), some (mI ((mxx (enS false T (x.2.2.map Prod.fst)) i : Nat) : Int)), some (mI ((i : Nat) : Int)), v3, v4, v5] [] σ2) (G)
      obtain ⟨q1, q2⟩ := hp
      have k46 : σ2.1 124 46 = (x.2.2.length : Int) := by rw [q2.2 46 (by omega)]; exact h46
      have k150 : σ2.1 150 = σ.1 150 := (q2.1 150 (by omega) (by omega)).1
      obtain ⟨s0, s1, s2, s3⟩ := hst i hi
      rw [← k150] at s0 s1 s2 s3
      obtain ⟨u1, u2, u3, u4, u5⟩ := hv.at (j := i) (by rw [lm]; exact hi)
      have ga : gA (x.2.2.map Prod.fst) i = (sA x.2.2 i).1 := gA_map _ _
      have bm := bg_mxP (T := T) (S := x.2.2.map Prod.fst) (i := i)
      have mb := fun p => mxP_b (T := T) (S := x.2.2.map Prod.fst) (p := p) hT hv i (by omega)
      have eb := enS_le (lo := false) (T := T) hT hv (show i < (x.2.2.map Prod.fst).length by omega)
      have en : enS false T (x.2.2.map Prod.fst) i = T (gA (x.2.2.map Prod.fst) i).1 + bgS false T (x.2.2.map Prod.fst) i := Nat.add_comm _ _
      have mm : mxx (enS false T (x.2.2.map Prod.fst)) (i + 1) = max (mxx (enS false T (x.2.2.map Prod.fst)) i) (enS false T (x.2.2.map Prod.fst) i) := rfl
      have mxl : mxx (enS false T (x.2.2.map Prod.fst)) i ≤ 2000 := mxx_le i fun h hh => by
        have := enS_le (lo := false) (T := T) hT hv (show h < (x.2.2.map Prod.fst).length by omega)
        omega
      have e6 := fun σ => E166n (sh := sh) (d := d) (σ := σ) (p := mxx (enS false T (x.2.2.map Prod.fst)) i) (q := enS false T (x.2.2.map Prod.fst) i) (by omega) (by omega)
      rw [← ga] at s0 s1 s2
      have g57 : σ2.1 157 (gA (x.2.2.map Prod.fst) i).1 = (T (gA (x.2.2.map Prod.fst) i).1 : Int) := by rw [(q2.1 157 (by omega) (by omega)).1]; exact (hTm.2.2 _ u1).1
      have c1 := q1 (gA (x.2.2.map Prod.fst) i).2.1 (by omega)
      have mb1 := mb (gA (x.2.2.map Prod.fst) i).2.1
      rw [rb] at s2
      rw [e275_24]
      by_cases h3 : 3 ≤ (gA (x.2.2.map Prod.fst) i).1
      · have u6 := u5 h3
        obtain ⟨y, hy⟩ : ∃ y : Nat, (gA (x.2.2.map Prod.fst) i).2.2 = (y : Int) := ⟨(gA (x.2.2.map Prod.fst) i).2.2.toNat, by omega⟩
        have hy2 : (gA (x.2.2.map Prod.fst) i).2.2.toNat = y := by omega
        rw [if_neg (by omega), hy] at s2
        rw [if_pos h3, hy2] at bm
        have c2 := q1 y (by omega)
        have mb2 := mb y
        have t2 := fun τ => q1.s2 (i := i) (y := y) (τ := τ) h3 hy2
        generalize x.2.2.map Prod.fst = S at *
        have e7 := E166n (sh := sh) (d := d) (σ := σ2) (p := mxP T S (gA S i).2.1 i) (q := mxP T S y i) (by omega) (by omega)
        rw [← bm] at e7
        have en2 : (T (gA S i).1 : Int) + (bgS false T S i : Int) = (enS false T S i : Int) := by omega
        rw [mm] at ih
        simp (disch := first | assumption | omega | (simp (disch := omega) only [wN, w0, w1]; omega)) only [e275_0, e275_1, e275_2, e275_3, e275_4, e275_7, e275_8, e275_11, e275_12, e275_13, e275_14, e275_17, e275_20, e275_21, e275_22, e275_23, e275_25, e275_26, e275_29, e275_32, e275_33, e275_36, e275_37, e275_38, e275_39, e275_40, e275_41, e275_42, e275_43, e275_44, e275_47, e275_48, e275_49, e275_50, e275_51, e275_52, e275_53, e275_55, e275_56, e275_59, e275_60, e275_63, e275_64, e275_65, e275_66, e275_67, e275_68, e275_69, e275_72, e275_73, e275_74, e275_76, e275_77, e275_80, e275_81, e275_84, e275_85, e275_88, e275_90, e275_91, e275_94, e275_95, e275_97, e275_98, e275_101, e275_102, e275_104, e275_105, e275_107, e275_108, e275_111, e275_112, e275_115, e275_117, e275_119, e275_120, e275_121, e275_123, e275_126, e275_127, e275_130, e275_133, e275_134, kl_I, kl_R, kl_N, kl_L, oSm, oNn, Option.bind_some, wN, if_pos, if_neg, nS, tN, t0, w0, w1, w2, w3, w4, w5, wm1, upA_ne, upA_same, if_true, if_false, Bool.false_eq_true, k46, ra44, rl44, ra56, rl56, ra58, rl58, n4, ← Int.natCast_add, nS2, s0, s1, s2, g57, c1, c2, e7, en2, e6]
        exact ih _ _ _ _ ⟨t2 _, (q2.tr (frW.a (a := 159) (by omega) (by omega))).tr ((frW.a (a := 159) (by omega) (by omega)))⟩
      · rw [if_pos (by omega)] at s2
        rw [if_neg h3] at bm
        have t2 := fun τ => q1.s1 (i := i) (τ := τ) h3
        generalize x.2.2.map Prod.fst = S at *
        have e7 := E166n (sh := sh) (d := d) (σ := σ2) (p := mxP T S (gA S i).2.1 i) (q := 0) (by omega) (by omega)
        rw [← bm] at e7
        replace e7 : run sh d 166 [mI (mxP T S (gA S i).2.1 i : Int), mI 0] σ2 = some (some (mI (bgS false T S i : Int)), σ2) := e7
        have en2 : (T (gA S i).1 : Int) + (bgS false T S i : Int) = (enS false T S i : Int) := by omega
        rw [mm] at ih
        simp (disch := first | assumption | omega | (simp (disch := omega) only [wN, w0, w1]; omega)) only [e275_0, e275_1, e275_2, e275_3, e275_4, e275_7, e275_8, e275_11, e275_12, e275_13, e275_14, e275_17, e275_20, e275_21, e275_22, e275_23, e275_25, e275_26, e275_29, e275_32, e275_33, e275_36, e275_37, e275_38, e275_39, e275_40, e275_41, e275_42, e275_43, e275_44, e275_47, e275_48, e275_49, e275_50, e275_51, e275_52, e275_53, e275_55, e275_56, e275_59, e275_60, e275_63, e275_64, e275_65, e275_66, e275_67, e275_68, e275_69, e275_72, e275_73, e275_74, e275_76, e275_77, e275_80, e275_81, e275_84, e275_85, e275_88, e275_90, e275_91, e275_94, e275_95, e275_97, e275_98, e275_101, e275_102, e275_104, e275_105, e275_107, e275_108, e275_111, e275_112, e275_115, e275_117, e275_119, e275_120, e275_121, e275_123, e275_126, e275_127, e275_130, e275_133, e275_134, kl_I, kl_R, kl_N, kl_L, oSm, oNn, Option.bind_some, wN, if_pos, if_neg, nS, tN, t0, w0, w1, w2, w3, w4, w5, wm1, upA_ne, upA_same, if_true, if_false, Bool.false_eq_true, k46, ra44, rl44, ra56, rl56, ra58, rl58, n4, ← Int.natCast_add, nS2, s0, s1, s2, g57, c1, e7, en2, e6]
        exact ih _ _ _ _ ⟨t2 _, q2.tr (frW.a (a := 159) (by omega) (by omega))⟩) 0 (Nat.zero_le _)
    exact L σ1 _ _ _ ⟨hD, hf⟩
  have L := for_P (5) (fun i => ∀ (σ1 : Mem), ((∀ p, p < i → σ1.1 159 p = 0) ∧ frW 159 159 1 0 σ σ1) → End (ev sh (d + 1) 275 2 [some (mR (124)), some (mI ((i : Nat) : Int)), none, none, none, none] [] σ1) (G)) (by
    intro σ1  hp
    replace hp : (∀ p, p < (5) → σ1.1 159 p = 0) ∧ frW 159 159 1 0 σ σ1 := hp
    show End (ev sh (d + 1) 275 2 [some (mR (124)), some (mI (((5) : Nat) : Int)), none, none, none, none] [] σ1) (G)
    rw [e275_2]
    simp (disch := first | assumption | omega | (simp (disch := omega) only [wN, w0, w1]; omega)) only [e275_0, e275_1, e275_3, e275_4, e275_7, e275_8, e275_11, e275_12, e275_13, e275_14, e275_17, e275_20, e275_21, e275_22, e275_23, e275_25, e275_26, e275_29, e275_32, e275_33, e275_36, e275_37, e275_38, e275_39, e275_40, e275_41, e275_42, e275_43, e275_44, e275_47, e275_48, e275_49, e275_50, e275_51, e275_52, e275_53, e275_55, e275_56, e275_59, e275_60, e275_63, e275_64, e275_65, e275_66, e275_67, e275_68, e275_69, e275_72, e275_73, e275_74, e275_76, e275_77, e275_80, e275_81, e275_84, e275_85, e275_88, e275_90, e275_91, e275_94, e275_95, e275_97, e275_98, e275_101, e275_102, e275_104, e275_105, e275_107, e275_108, e275_111, e275_112, e275_115, e275_117, e275_119, e275_120, e275_121, e275_123, e275_126, e275_127, e275_130, e275_133, e275_134, kl_I, kl_R, kl_N, kl_L, oSm, oNn, Option.bind_some, wN, if_pos, if_neg, nS, tN, t0, w0, w1, w2, w3, w4, w5, wm1, upA_ne, upA_same, if_true, if_false, Bool.false_eq_true]
    exact main _ (fun p hp5 => hp.1 p hp5) hp.2) (fun i hi ih => by
    replace ih : ∀ (σ1 : Mem), ((∀ p, p < (i + 1) → σ1.1 159 p = 0) ∧ frW 159 159 1 0 σ σ1) → End (ev sh (d + 1) 275 2 [some (mR (124)), some (mI (((i + 1) : Nat) : Int)), none, none, none, none] [] σ1) (G) := ih
    intro σ1  hp
    replace hp : (∀ p, p < i → σ1.1 159 p = 0) ∧ frW 159 159 1 0 σ σ1 := hp
    show End (ev sh (d + 1) 275 2 [some (mR (124)), some (mI ((i : Nat) : Int)), none, none, none, none] [] σ1) (G)
    rw [e275_2]
    simp (disch := first | assumption | omega | (simp (disch := omega) only [wN, w0, w1]; omega)) only [e275_0, e275_1, e275_3, e275_4, e275_7, e275_8, e275_11, e275_12, e275_13, e275_14, e275_17, e275_20, e275_21, e275_22, e275_23, e275_25, e275_26, e275_29, e275_32, e275_33, e275_36, e275_37, e275_38, e275_39, e275_40, e275_41, e275_42, e275_43, e275_44, e275_47, e275_48, e275_49, e275_50, e275_51, e275_52, e275_53, e275_55, e275_56, e275_59, e275_60, e275_63, e275_64, e275_65, e275_66, e275_67, e275_68, e275_69, e275_72, e275_73, e275_74, e275_76, e275_77, e275_80, e275_81, e275_84, e275_85, e275_88, e275_90, e275_91, e275_94, e275_95, e275_97, e275_98, e275_101, e275_102, e275_104, e275_105, e275_107, e275_108, e275_111, e275_112, e275_115, e275_117, e275_119, e275_120, e275_121, e275_123, e275_126, e275_127, e275_130, e275_133, e275_134, kl_I, kl_R, kl_N, kl_L, oSm, oNn, Option.bind_some, wN, if_pos, if_neg, nS, tN, t0, w0, w1, w2, w3, w4, w5, wm1, upA_ne, upA_same, if_true, if_false, Bool.false_eq_true, ra58, rl58]
    refine ih _ ⟨fun p hp5 => ?_, hp.2.tr (frW.a (a := 159) (by omega) (by omega))⟩
    simp (disch := omega) only [upA_same]
    by_cases q : p = i
    · rw [q, up1_same]
    · rw [up1_ne q]; exact hp.1 p (by omega)) 0 (Nat.zero_le _)
  simp (disch := first | assumption | omega | (simp (disch := omega) only [wN, w0, w1]; omega)) only [e275_0, e275_1, e275_3, e275_4, e275_7, e275_8, e275_11, e275_12, e275_13, e275_14, e275_17, e275_20, e275_21, e275_22, e275_23, e275_25, e275_26, e275_29, e275_32, e275_33, e275_36, e275_37, e275_38, e275_39, e275_40, e275_41, e275_42, e275_43, e275_44, e275_47, e275_48, e275_49, e275_50, e275_51, e275_52, e275_53, e275_55, e275_56, e275_59, e275_60, e275_63, e275_64, e275_65, e275_66, e275_67, e275_68, e275_69, e275_72, e275_73, e275_74, e275_76, e275_77, e275_80, e275_81, e275_84, e275_85, e275_88, e275_90, e275_91, e275_94, e275_95, e275_97, e275_98, e275_101, e275_102, e275_104, e275_105, e275_107, e275_108, e275_111, e275_112, e275_115, e275_117, e275_119, e275_120, e275_121, e275_123, e275_126, e275_127, e275_130, e275_133, e275_134, kl_I, kl_R, kl_N, kl_L, oSm, oNn, Option.bind_some, wN, if_pos, if_neg, nS, tN, t0, w0, w1, w2, w3, w4, w5, wm1, upA_ne, upA_same, if_true, if_false, Bool.false_eq_true, q275]
  exact L σ ⟨fun p hp => by omega, frW.rf⟩
end OB

