/-! ===== GateList: commute, waitsFor, ahead ===== -/
section GLW
variable {sh : Shp} {d g cap n : Nat} {σ : Mem} {c : List Gt} {x y : Nat}
theorem e01 (a b : Nat) : (a : Int) = (b : Int) ↔ a = b := Int.ofNat_inj
set_option maxRecDepth 100000 in
theorem L59 (hg : glS sh g cap) (hG : HG σ g c) (hc : c.length ≤ cap) (hb : cap ≤ 100) (hv : okC n c) (hn5 : n ≤ 5) (hi : x < c.length) (hj : y < c.length) : run sh (d + 2) 59 [mR g, mI (x : Int), mI (y : Int)] σ = some (some (mI (if cmB (gA c x) (gA c y) = true then 1 else 0)), σ) := by
  have ho := hg.1
  have m1 : gm (gA c x) < 32 := gm_lt (hv.at hi) hn5
  have m2 : gm (gA c y) < 32 := gm_lt (hv.at hj) hn5
  have m3 : gm (gA c x) &&& gm (gA c y) < 32 := Nat.lt_of_le_of_lt Nat.and_le_left m1
  have q1 := (hv.at hi).1
  have q2 := (hv.at hj).1
  have s0 := fun l (hl : l < 5) => L58 (d := d) hg hG hc hb hv hn5 hi hl
  have s1 := fun l (hl : l < 5) => L58 (d := d) hg hG hc hb hv hn5 hj hl
  have hman : ∀ q l, man q l < 5 := by intro q l; unfold man; repeat' split
                                       all_goals omega
  have F := for_dn (fun i => ev sh (d + 2) 59 92 [some (mR (g)), some (mI ((x : Nat) : Int)), some (mI ((y : Nat) : Int)), some (mI ((gm (gA c x) &&& gm (gA c y) : Nat) : Int)), some (mI ((i : Nat) : Int))] [] (σ)) (fun i => some (some (mI (if fa (mn1 (gA c x) (gA c y)) (4 - i) i = true then 1 else 0)), σ)) (4) (by
    show ev sh (d + 2) 59 92 [some (mR (g)), some (mI ((x : Nat) : Int)), some (mI ((y : Nat) : Int)), some (mI ((gm (gA c x) &&& gm (gA c y) : Nat) : Int)), some (mI (((4) : Nat) : Int))] [] (σ) = some (some (mI (if fa (mn1 (gA c x) (gA c y)) (4 - (4)) (4) = true then 1 else 0)), σ)
    rw [fa_e, e59_92]
    simp (disch := first | assumption | omega) only [e59_0, e59_1, e59_2, e59_5, e59_6, e59_7, e59_10, e59_11, e59_12, e59_13, e59_16, e59_17, e59_18, e59_21, e59_24, e59_25, e59_26, e59_29, e59_32, e59_33, e59_34, e59_35, e59_36, e59_39, e59_40, e59_43, e59_44, e59_45, e59_48, e59_49, e59_52, e59_53, e59_54, e59_57, e59_58, e59_61, e59_62, e59_63, e59_66, e59_67, e59_70, e59_71, e59_72, e59_75, e59_76, e59_77, e59_80, e59_83, e59_84, e59_87, e59_88, e59_89, e59_90, e59_94, e59_95, e59_98, e59_99, e59_101, e59_102, e59_103, e59_104, e59_107, e59_108, e59_109, e59_111, e59_114, e59_115, e59_116, e59_118, e59_121, e59_124, e59_125, e59_126, e59_129, e59_132, e59_133, kl_I, kl_R, kl_N, kl_L, oSm, oNn, Option.bind_some, wN, if_pos, if_neg, nS, tN, t0, w0, w1, w2, w3, w4, w5, wm1, upA_ne, upA_same]
    rfl) (fun i hi ih => by
    replace ih : ev sh (d + 2) 59 92 [some (mR (g)), some (mI ((x : Nat) : Int)), some (mI ((y : Nat) : Int)), some (mI ((gm (gA c x) &&& gm (gA c y) : Nat) : Int)), some (mI (((i + 1) : Nat) : Int))] [] (σ) = some (some (mI (if fa (mn1 (gA c x) (gA c y)) (4 - (i + 1)) (i + 1) = true then 1 else 0)), σ) := ih
    show ev sh (d + 2) 59 92 [some (mR (g)), some (mI ((x : Nat) : Int)), some (mI ((y : Nat) : Int)), some (mI ((gm (gA c x) &&& gm (gA c y) : Nat) : Int)), some (mI ((i : Nat) : Int))] [] (σ) = some (some (mI (if fa (mn1 (gA c x) (gA c y)) (4 - i) i = true then 1 else 0)), σ)
    rw [e59_92, fa_s hi]
    have z0 := hman (gA c x) i
    have z1 := hman (gA c y) i
    simp (disch := first | assumption | omega) only [e59_0, e59_1, e59_2, e59_5, e59_6, e59_7, e59_10, e59_11, e59_12, e59_13, e59_16, e59_17, e59_18, e59_21, e59_24, e59_25, e59_26, e59_29, e59_32, e59_33, e59_34, e59_35, e59_36, e59_39, e59_40, e59_43, e59_44, e59_45, e59_48, e59_49, e59_52, e59_53, e59_54, e59_57, e59_58, e59_61, e59_62, e59_63, e59_66, e59_67, e59_70, e59_71, e59_72, e59_75, e59_76, e59_77, e59_80, e59_83, e59_84, e59_87, e59_88, e59_89, e59_90, e59_94, e59_95, e59_98, e59_99, e59_101, e59_102, e59_103, e59_104, e59_107, e59_108, e59_109, e59_111, e59_114, e59_115, e59_116, e59_118, e59_121, e59_124, e59_125, e59_126, e59_129, e59_132, e59_133, kl_I, kl_R, kl_N, kl_L, oSm, oNn, Option.bind_some, wN, if_pos, if_neg, nS, tN, t0, w0, w1, w2, w3, w4, w5, wm1, upA_ne, upA_same, s0 i (by omega), s1 i (by omega), xbit, wi_01, if10]
    rw [ih]
    unfold mn1
    by_cases hq : (gm (gA c x) &&& gm (gA c y)).testBit i = true
    · by_cases hm : man (gA c x) i = man (gA c y) i
      · simp [hq, hm]
      · simp [hq, hm, e01]
    · simp [hq]) 0 (Nat.zero_le _)
  simp (disch := first | assumption | omega) only [e59_0, e59_1, e59_2, e59_5, e59_6, e59_7, e59_10, e59_11, e59_12, e59_13, e59_16, e59_17, e59_18, e59_21, e59_24, e59_25, e59_26, e59_29, e59_32, e59_33, e59_34, e59_35, e59_36, e59_39, e59_40, e59_43, e59_44, e59_45, e59_48, e59_49, e59_52, e59_53, e59_54, e59_57, e59_58, e59_61, e59_62, e59_63, e59_66, e59_67, e59_70, e59_71, e59_72, e59_75, e59_76, e59_77, e59_80, e59_83, e59_84, e59_87, e59_88, e59_89, e59_90, e59_94, e59_95, e59_98, e59_99, e59_101, e59_102, e59_103, e59_104, e59_107, e59_108, e59_109, e59_111, e59_114, e59_115, e59_116, e59_118, e59_121, e59_124, e59_125, e59_126, e59_129, e59_132, e59_133, kl_I, kl_R, kl_N, kl_L, oSm, oNn, Option.bind_some, wN, if_pos, if_neg, nS, tN, t0, w0, w1, w2, w3, w4, w5, wm1, upA_ne, upA_same, q59, L51 hg hG hc hb hi, L51 hg hG hc hb hj, xand_nn, L57 hg hG hc hb hv hn5 hi, L57 hg hG hc hb hv hn5 hj, L46 hg hG hc hb hi, L46 hg hG hc hb hj, wi_01, if10]
  by_cases h1 : gm (gA c x) &&& gm (gA c y) = 0
  · rw [if_pos (by rw [h1]; rfl)]
    simp [cmB, h1]
  · rw [if_neg (by omega)]
    by_cases h2 : idB (gA c x) = true
    · simp [cmB, h2]
    · by_cases h3 : idB (gA c y) = true
      · simp [cmB, h2, h3]
      · simp only [h2, h3, not_false_eq_true, if_true, if_false]
        by_cases h4 : (gA c x).1 = 5 ∨ (gA c y).1 = 5
        · have e : cmB (gA c x) (gA c y) = decide (4 ≤ (gA c x).1 ∧ 4 ≤ (gA c y).1 ∧ gm (gA c x) = gm (gA c y)) := by
            unfold cmB
            rw [if_neg (by simp [h1, h2, h3]), if_pos h4]
          rw [e]
          repeat' split
          all_goals first | rfl | omega | (simp at *; done) | (simp at *; omega)
        · have e : cmB (gA c x) (gA c y) = fa (mn1 (gA c x) (gA c y)) 4 0 := by
            unfold cmB
            rw [if_neg (by simp [h1, h2, h3]), if_neg h4]
          rw [e]
          simp (disch := omega) only [if_neg]
          refine Eq.trans ?_ F
          rfl
end GLW
