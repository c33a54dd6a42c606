/-! ===== the reference: findsAhead ===== -/
/-- what findsAhead has found of the gates below k -/
def HAh (σ : Mem) (c : List Gt) (k : Nat) : Prop := ∀ y, y < k → σ.1 139 y = (ahS false c y : Int) ∧ σ.1 140 y = (ahS true c y : Int) ∧ σ.1 141 y = ((1 + bgS false (fun _ => 1) c y : Nat) : Int) ∧ σ.1 142 y = ((1 + bgS true (fun _ => 1) c y : Nat) : Int)
theorem HAh.W {σ σ' : Mem} {c : List Gt} {k x y u v : Nat} (h : HAh σ c k) (hf : frW x y u v σ σ') (hx : y < 139 ∨ 142 < x ∨ y < x) : HAh σ' c k := fun j hj => by
  rw [(hf.1 139 (by omega) (by omega)).1, (hf.1 140 (by omega) (by omega)).1, (hf.1 141 (by omega) (by omega)).1, (hf.1 142 (by omega) (by omega)).1]
  exact h j hj
/-- and of gate g, from those below h -/
def HAp (σ : Mem) (c : List Gt) (g h : Nat) : Prop := σ.1 139 g = (orr (ahF false c g (ahS false c)) h : Int) ∧ σ.1 140 g = (orr (ahF true c g (ahS true c)) h : Int) ∧ σ.1 141 g = ((1 + mxx (bgF false (fun _ => 1) c g (bgS false (fun _ => 1) c)) h : Nat) : Int) ∧ σ.1 142 g = ((1 + mxx (bgF true (fun _ => 1) c g (bgS true (fun _ => 1) c)) h : Nat) : Int)
section MY
variable {sh : Shp} {d t g h n : Nat} {σ : Mem} {z : Int} {c : List Gt}
theorem bg_le (lo : Bool) (c : List Gt) : ∀ g, bgS lo (fun _ => 1) c g ≤ g := by
  intro g
  induction g using Nat.strongRecOn with
  | ind g ih =>
    rw [bgS_eq]
    refine mxx_le g (fun h hh => ?_)
    unfold bgF
    split
    · have := ih h hh
      show bgS lo (fun _ => 1) c h + 1 ≤ g
      omega
    · omega
theorem M211 (hM : MS sh) (hG : HGm σ t c) (ht : t < 3) (hc : c.length ≤ 30) (hv : okC n c) (hN : σ.1 124 8 = (n : Int)) (hn : n ≤ 4) (hz : z = (t : Int)) : End (run sh (d + 3) 211 [mR 124, mI z] σ) (fun r σ' => r = none ∧ HAh σ' c c.length ∧ frW 137 142 1 0 σ σ') := by
  subst hz
  have mo := hM.1
  have m160 := hM.2.1
  obtain ⟨ra1, rk1, rl1⟩ := ms1 hM
  obtain ⟨ra32, rk32, rl32⟩ := ms32 hM
  obtain ⟨ra33, rk33, rl33⟩ := ms33 hM
  obtain ⟨ra34, rk34, rl34⟩ := ms34 hM
  obtain ⟨ra35, rk35, rl35⟩ := ms35 hM
  have A := for_P (c.length) (fun i => ∀ (σ1 : Mem) (v3 : Option MV), (HAh σ1 c i ∧ frW 137 142 1 0 σ σ1) → End (ev sh (d + 3) 211 2 [some (mR (124)), some (mI ((t : Nat) : Int)), some (mI ((i : Nat) : Int)), v3] [] σ1) (fun r σ' => r = none ∧ HAh σ' c c.length ∧ frW 137 142 1 0 σ σ')) (by
    intro σ1 v3 hp
    replace hp : HAh σ1 c (c.length) ∧ frW 137 142 1 0 σ σ1 := hp
    show End (ev sh (d + 3) 211 2 [some (mR (124)), some (mI ((t : Nat) : Int)), some (mI (((c.length) : Nat) : Int)), v3] [] σ1) (fun r σ' => r = none ∧ HAh σ' c c.length ∧ frW 137 142 1 0 σ σ')
    have hl : σ1.1 126 t = (c.length : Int) := by rw [(hp.2.1 126 (by omega) (by omega)).1]; exact hG.1
    rw [e211_2]
    simp (disch := first | assumption | omega | (simp (disch := omega) only [wN, w0, w1]; omega)) only [e211_0, e211_1, e211_3, e211_4, e211_7, e211_8, e211_9, e211_12, e211_13, e211_16, e211_17, e211_18, e211_19, e211_20, e211_23, e211_24, e211_25, e211_26, e211_27, e211_30, e211_31, e211_32, e211_33, e211_34, e211_37, e211_38, e211_39, e211_40, e211_41, e211_43, e211_44, e211_47, e211_48, e211_49, e211_50, e211_53, e211_54, e211_55, e211_56, e211_59, e211_60, e211_63, e211_66, e211_67, e211_70, e211_71, e211_72, e211_75, e211_76, e211_77, e211_78, e211_81, e211_82, e211_83, e211_84, e211_85, e211_86, e211_87, e211_88, e211_89, e211_90, e211_93, e211_94, e211_95, e211_98, e211_99, e211_100, e211_101, e211_102, e211_105, e211_106, e211_107, e211_108, e211_111, e211_112, e211_113, e211_114, e211_115, e211_116, e211_119, e211_122, e211_125, e211_126, e211_129, e211_130, e211_131, e211_134, e211_135, e211_136, e211_137, e211_140, e211_141, e211_142, e211_143, e211_144, e211_145, e211_146, e211_147, e211_148, e211_149, e211_152, e211_153, e211_154, e211_157, e211_158, e211_159, e211_160, e211_161, e211_164, e211_165, e211_166, e211_167, e211_170, e211_171, e211_174, e211_177, e211_180, e211_183, kl_I, kl_R, kl_N, kl_L, oSm, oNn, Option.bind_some, wN, if_pos, if_neg, nS, tN, t0, w0, w1, w2, w3, w4, w5, wm1, upA_ne, upA_same, if_true, if_false, Bool.false_eq_true, ra1, rl1, hl]
    exact End.of rfl ⟨rfl, hp⟩) (fun i hi ih => by
    replace ih : ∀ (σ1 : Mem) (v3 : Option MV), (HAh σ1 c (i + 1) ∧ frW 137 142 1 0 σ σ1) → End (ev sh (d + 3) 211 2 [some (mR (124)), some (mI ((t : Nat) : Int)), some (mI (((i + 1) : Nat) : Int)), v3] [] σ1) (fun r σ' => r = none ∧ HAh σ' c c.length ∧ frW 137 142 1 0 σ σ') := ih
    intro σ1 v3 hp
    replace hp : HAh σ1 c i ∧ frW 137 142 1 0 σ σ1 := hp
    show End (ev sh (d + 3) 211 2 [some (mR (124)), some (mI ((t : Nat) : Int)), some (mI ((i : Nat) : Int)), v3] [] σ1) (fun r σ' => r = none ∧ HAh σ' c c.length ∧ frW 137 142 1 0 σ σ')
    have hl : σ1.1 126 t = (c.length : Int) := by rw [(hp.2.1 126 (by omega) (by omega)).1]; exact hG.1
    have hi0 := hi
    have B := for_P (i) (fun j => ∀ (σ2 : Mem), (HAh σ2 c i ∧ HAp σ2 c i j ∧ frW 137 142 1 0 σ σ2) → End (ev sh (d + 3) 211 42 [some (mR (124)), some (mI ((t : Nat) : Int)), some (mI ((i : Nat) : Int)), some (mI ((j : Nat) : Int))] [] σ2) (fun r σ' => r = none ∧ HAh σ' c c.length ∧ frW 137 142 1 0 σ σ')) (by
      intro σ2  hp
      replace hp : HAh σ2 c i ∧ HAp σ2 c i (i) ∧ frW 137 142 1 0 σ σ2 := hp
      show End (ev sh (d + 3) 211 42 [some (mR (124)), some (mI ((t : Nat) : Int)), some (mI ((i : Nat) : Int)), some (mI (((i) : Nat) : Int))] [] σ2) (fun r σ' => r = none ∧ HAh σ' c c.length ∧ frW 137 142 1 0 σ σ')
      obtain ⟨b1, b2, b3⟩ := hp
      rw [e211_42]
      simp (disch := first | assumption | omega | (simp (disch := omega) only [wN, w0, w1]; omega)) only [e211_0, e211_1, e211_3, e211_4, e211_7, e211_8, e211_9, e211_12, e211_13, e211_16, e211_17, e211_18, e211_19, e211_20, e211_23, e211_24, e211_25, e211_26, e211_27, e211_30, e211_31, e211_32, e211_33, e211_34, e211_37, e211_38, e211_39, e211_40, e211_41, e211_43, e211_44, e211_47, e211_48, e211_49, e211_50, e211_53, e211_54, e211_55, e211_56, e211_59, e211_60, e211_63, e211_66, e211_67, e211_70, e211_71, e211_72, e211_75, e211_76, e211_77, e211_78, e211_81, e211_82, e211_83, e211_84, e211_85, e211_86, e211_87, e211_88, e211_89, e211_90, e211_93, e211_94, e211_95, e211_98, e211_99, e211_100, e211_101, e211_102, e211_105, e211_106, e211_107, e211_108, e211_111, e211_112, e211_113, e211_114, e211_115, e211_116, e211_119, e211_122, e211_125, e211_126, e211_129, e211_130, e211_131, e211_134, e211_135, e211_136, e211_137, e211_140, e211_141, e211_142, e211_143, e211_144, e211_145, e211_146, e211_147, e211_148, e211_149, e211_152, e211_153, e211_154, e211_157, e211_158, e211_159, e211_160, e211_161, e211_164, e211_165, e211_166, e211_167, e211_170, e211_171, e211_174, e211_177, e211_180, e211_183, kl_I, kl_R, kl_N, kl_L, oSm, oNn, Option.bind_some, wN, if_pos, if_neg, nS, tN, t0, w0, w1, w2, w3, w4, w5, wm1, upA_ne, upA_same, if_true, if_false, Bool.false_eq_true]
      refine ih _ _ ⟨fun y hy => ?_, b3⟩
      by_cases q : y = i
      · subst q
        rw [ahS_eq, ahS_eq, bgS_eq, bgS_eq]; exact b2
      · exact b1 y (by omega)) (fun j hi ih => by
      replace ih : ∀ (σ2 : Mem), (HAh σ2 c i ∧ HAp σ2 c i (j + 1) ∧ frW 137 142 1 0 σ σ2) → End (ev sh (d + 3) 211 42 [some (mR (124)), some (mI ((t : Nat) : Int)), some (mI ((i : Nat) : Int)), some (mI (((j + 1) : Nat) : Int))] [] σ2) (fun r σ' => r = none ∧ HAh σ' c c.length ∧ frW 137 142 1 0 σ σ') := ih
      intro σ2  hp
      replace hp : HAh σ2 c i ∧ HAp σ2 c i j ∧ frW 137 142 1 0 σ σ2 := hp
      show End (ev sh (d + 3) 211 42 [some (mR (124)), some (mI ((t : Nat) : Int)), some (mI ((i : Nat) : Int)), some (mI ((j : Nat) : Int))] [] σ2) (fun r σ' => r = none ∧ HAh σ' c c.length ∧ frW 137 142 1 0 σ σ')
      obtain ⟨b1, ⟨p1, p2, p3, p4⟩, b3⟩ := hp
      have hj : j < c.length := by omega
      have hG2 : HGm σ2 t c := hG.k (by rw [(b3.1 126 (by omega) (by omega)).1]) (fun _ _ _ => by rw [(b3.1 125 (by omega) (by omega)).1])
      have hN2 : σ2.1 124 8 = (n : Int) := by rw [b3.2 8 (by omega)]; exact hN
      obtain ⟨s1, s2, s3, s4⟩ := b1 j (by omega)
      have a1 := E174 (d := d) hM hG2 ht hc hv (by omega) hi0 rfl
      have a2 := E174 (d := d) hM hG2 ht hc hv (by omega) hj rfl
      have gi := gm_lt (hv.at hi0) (by omega)
      have x1 := xand_nn (a := gm (gA c i)) (b := gm (gA c j)) (by omega)
      have q31 : 2 ^ i ≤ 2147483648 := p31 (by omega)
      have o1 : ∀ lo, orr (ahF lo c i (ahS lo c)) j < 2147483648 := fun lo => Nat.lt_of_lt_of_le (orr_lt j (fun h hh => ahF_lt h (Nat.lt_trans hh hi) (ahS_lt lo c h))) q31
      have o2 : ∀ lo, ahS lo c j < 2147483648 := fun lo => Nat.lt_of_lt_of_le (ahS_lt lo c j) (p31 (by omega))
      have o3 : 2 ^ j < 2147483648 := Nat.lt_of_lt_of_le (Nat.pow_lt_pow_right (by omega) (show j < 31 by omega)) (p31 (Nat.le_refl 31))
      have m1 : ∀ lo, mxx (bgF lo (fun _ => 1) c i (bgS lo (fun _ => 1) c)) j ≤ 1000 := fun lo => mxx_le j (fun h hh => by
        unfold bgF
        have := bg_le lo c h
        split
        · show bgS lo (fun _ => 1) c h + 1 ≤ 1000
          omega
        · omega)
      have m2 : ∀ lo, bgS lo (fun _ => 1) c j ≤ 1000 := fun lo => by have := bg_le lo c j; omega
      have oo : ∀ lo, orr (ahF lo c i (ahS lo c)) (j + 1) = orr (ahF lo c i (ahS lo c)) j ||| ahF lo c i (ahS lo c) j := fun _ => rfl
      have mm : ∀ lo, mxx (bgF lo (fun _ => 1) c i (bgS lo (fun _ => 1) c)) (j + 1) = max (mxx (bgF lo (fun _ => 1) c i (bgS lo (fun _ => 1) c)) j) (bgF lo (fun _ => 1) c i (bgS lo (fun _ => 1) c) j) := fun _ => rfl
      by_cases hz0 : gm (gA c i) &&& gm (gA c j) = 0
      · have w1 : ∀ lo, wtB lo (gA c i) (gA c j) = false := fun lo => by simp [wtB, hz0]
        rw [hz0] at x1
        replace x1 : xand (gm (gA c i) : Int) (gm (gA c j) : Int) = 0 := x1
        clear o1 o2 m1 m2
        rw [e211_42]
        simp (disch := first | assumption | omega | (simp (disch := omega) only [wN, w0, w1]; omega)) only [e211_0, e211_1, e211_3, e211_4, e211_7, e211_8, e211_9, e211_12, e211_13, e211_16, e211_17, e211_18, e211_19, e211_20, e211_23, e211_24, e211_25, e211_26, e211_27, e211_30, e211_31, e211_32, e211_33, e211_34, e211_37, e211_38, e211_39, e211_40, e211_41, e211_43, e211_44, e211_47, e211_48, e211_49, e211_50, e211_53, e211_54, e211_55, e211_56, e211_59, e211_60, e211_63, e211_66, e211_67, e211_70, e211_71, e211_72, e211_75, e211_76, e211_77, e211_78, e211_81, e211_82, e211_83, e211_84, e211_85, e211_86, e211_87, e211_88, e211_89, e211_90, e211_93, e211_94, e211_95, e211_98, e211_99, e211_100, e211_101, e211_102, e211_105, e211_106, e211_107, e211_108, e211_111, e211_112, e211_113, e211_114, e211_115, e211_116, e211_119, e211_122, e211_125, e211_126, e211_129, e211_130, e211_131, e211_134, e211_135, e211_136, e211_137, e211_140, e211_141, e211_142, e211_143, e211_144, e211_145, e211_146, e211_147, e211_148, e211_149, e211_152, e211_153, e211_154, e211_157, e211_158, e211_159, e211_160, e211_161, e211_164, e211_165, e211_166, e211_167, e211_170, e211_171, e211_174, e211_177, e211_180, e211_183, kl_I, kl_R, kl_N, kl_L, oSm, oNn, Option.bind_some, wN, if_pos, if_neg, nS, tN, t0, w0, w1, w2, w3, w4, w5, wm1, upA_ne, upA_same, if_true, if_false, Bool.false_eq_true, a1, a2, x1]
        refine ih _ ⟨b1, ⟨?_, ?_, ?_, ?_⟩, b3⟩
        · rw [oo, ahF, w1]; simpa using p1
        · rw [oo, ahF, w1]; simpa using p2
        · rw [mm, bgF, w1]; simpa using p3
        · rw [mm, bgF, w1]; simpa using p4
      · have w0 : wtB false (gA c i) (gA c j) = true := by simp [wtB, hz0]
        have hz1 : ¬ (wi ((gm (gA c i) &&& gm (gA c j) : Nat) : Int)) = 0 := by
          have : gm (gA c i) &&& gm (gA c j) ≤ gm (gA c i) := Nat.and_le_left
          rw [wN (by omega)]; omega
        have xs := xshl_1 (k := j) (by omega)
        have y1 := fun lo => xor_nn (a := orr (ahF lo c i (ahS lo c)) j) (b := ahS lo c j) (o1 lo) (o2 lo)
        have y2 := fun lo => xor_nn (a := orr (ahF lo c i (ahS lo c)) j ||| ahS lo c j) (b := 2 ^ j) (Nat.or_lt_two_pow (n := 31) (o1 lo) (o2 lo)) o3
        have n1 : ∀ b : Nat, (1 : Int) + ((1 + b : Nat) : Int) = ((1 + (1 + b) : Nat) : Int) := fun b => by omega
        have e6 := fun (lo : Bool) (σ : Mem) => E166n (sh := sh) (d := d + 2) (σ := σ) (p := 1 + mxx (bgF lo (fun _ => 1) c i (bgS lo (fun _ => 1) c)) j) (q := 1 + (1 + bgS lo (fun _ => 1) c j)) (by have := m1 lo; omega) (by have := m2 lo; omega)
        have va : ∀ lo, wtB lo (gA c i) (gA c j) = true → orr (ahF lo c i (ahS lo c)) j ||| ahS lo c j ||| 2 ^ j = orr (ahF lo c i (ahS lo c)) (j + 1) := fun lo h => by
          rw [oo, ahF, if_pos h, Nat.or_assoc, Nat.or_comm (ahS lo c j)]
        have vb : ∀ lo, wtB lo (gA c i) (gA c j) = true → max (1 + mxx (bgF lo (fun _ => 1) c i (bgS lo (fun _ => 1) c)) j) (1 + (1 + bgS lo (fun _ => 1) c j)) = 1 + mxx (bgF lo (fun _ => 1) c i (bgS lo (fun _ => 1) c)) (j + 1) := fun lo h => by
          rw [mm]
          have : bgF lo (fun _ => 1) c i (bgS lo (fun _ => 1) c) j = bgS lo (fun _ => 1) c j + 1 := by rw [bgF, if_pos h]
          omega
        have y10 := y1 false
        have y20 := y2 false
        rw [va false w0] at y20
        have e60 := e6 false
        rw [vb false w0] at e60
        obtain ⟨r, σ4, c1, rfl, c3⟩ := M210c (d := d) (z := (t : Int)) (σ := (upA (upA σ2.1 139 (up1 (σ2.1 139) i ((orr (ahF false c i (ahS false c)) (j + 1) : Nat) : Int))) 141 (up1 (σ2.1 141) i ((1 + mxx (bgF false (fun _ => 1) c i (bgS false (fun _ => 1) c)) (j + 1) : Nat) : Int)), σ2.2)) hM (hG2.k (by simp (disch := omega) only [upA_ne]) (fun _ _ _ => by simp (disch := omega) only [upA_ne])) ht hc hv (by simp (disch := omega) only [upA_ne]; exact hN2) hn hi0 hj rfl
        have k39 : σ4.1 139 = up1 (σ2.1 139) i ((orr (ahF false c i (ahS false c)) (j + 1) : Nat) : Int) := by
          rw [(c3.1 139 (by omega) (by omega)).1]; simp (disch := omega) only [upA_same, upA_ne]
        have k40 : σ4.1 140 = σ2.1 140 := by
          rw [(c3.1 140 (by omega) (by omega)).1]; simp (disch := omega) only [upA_ne]
        have k41 : σ4.1 141 = up1 (σ2.1 141) i ((1 + mxx (bgF false (fun _ => 1) c i (bgS false (fun _ => 1) c)) (j + 1) : Nat) : Int) := by
          rw [(c3.1 141 (by omega) (by omega)).1]; simp (disch := omega) only [upA_same]
        have k42 : σ4.1 142 = σ2.1 142 := by
          rw [(c3.1 142 (by omega) (by omega)).1]; simp (disch := omega) only [upA_ne]
        have f4 : frW 137 142 1 0 σ σ4 := ((b3.tr (frW.a (by omega) (by omega))).tr (frW.a (by omega) (by omega))).tr (c3.w (by omega) (by omega) (by omega) (by omega))
        have b4 : HAh σ4 c i := fun y hy => by
          rw [k39, k40, k41, k42]
          simp (disch := omega) only [up1_ne]
          exact b1 y hy
        by_cases hcm : cmB (gA c i) (gA c j) = true
        · have w1 : wtB true (gA c i) (gA c j) = false := by simp [wtB, hcm]
          rw [if_pos hcm] at c1
          have g1 : HAp σ4 c i (j + 1) := by
            refine ⟨?_, ?_, ?_, ?_⟩
            · rw [k39, up1_same]
            · rw [k40, oo, ahF, w1]; simpa using p2
            · rw [k41, up1_same]
            · rw [k42, mm, bgF, w1]; simpa using p4
          clear o1 o2 m1 m2 y1 y2 e6 va vb oo mm
          rw [e211_42]
          simp (disch := first | assumption | omega | (simp (disch := omega) only [wN, w0, w1]; omega)) only [e211_0, e211_1, e211_3, e211_4, e211_7, e211_8, e211_9, e211_12, e211_13, e211_16, e211_17, e211_18, e211_19, e211_20, e211_23, e211_24, e211_25, e211_26, e211_27, e211_30, e211_31, e211_32, e211_33, e211_34, e211_37, e211_38, e211_39, e211_40, e211_41, e211_43, e211_44, e211_47, e211_48, e211_49, e211_50, e211_53, e211_54, e211_55, e211_56, e211_59, e211_60, e211_63, e211_66, e211_67, e211_70, e211_71, e211_72, e211_75, e211_76, e211_77, e211_78, e211_81, e211_82, e211_83, e211_84, e211_85, e211_86, e211_87, e211_88, e211_89, e211_90, e211_93, e211_94, e211_95, e211_98, e211_99, e211_100, e211_101, e211_102, e211_105, e211_106, e211_107, e211_108, e211_111, e211_112, e211_113, e211_114, e211_115, e211_116, e211_119, e211_122, e211_125, e211_126, e211_129, e211_130, e211_131, e211_134, e211_135, e211_136, e211_137, e211_140, e211_141, e211_142, e211_143, e211_144, e211_145, e211_146, e211_147, e211_148, e211_149, e211_152, e211_153, e211_154, e211_157, e211_158, e211_159, e211_160, e211_161, e211_164, e211_165, e211_166, e211_167, e211_170, e211_171, e211_174, e211_177, e211_180, e211_183, kl_I, kl_R, kl_N, kl_L, oSm, oNn, Option.bind_some, wN, if_pos, if_neg, nS, tN, t0, w0, w1, w2, w3, w4, w5, wm1, upA_ne, upA_same, if_true, if_false, Bool.false_eq_true, a1, a2, x1, ra32, rl32, ra33, rl33, ra34, rl34, ra35, rl35, p1, s1, y10, y20, xs, p3, s3, n1, e60, c1]
          exact ih _ ⟨b4, g1, f4⟩
        · have w1 : wtB true (gA c i) (gA c j) = true := by simp [wtB, hcm, hz0]
          rw [if_neg hcm] at c1
          have y11 := y1 true
          have y21 := y2 true
          rw [va true w1] at y21
          have e61 := e6 true
          rw [vb true w1] at e61
          have p2' := p2
          rw [← k40] at p2'
          have s2' := s2
          rw [← k40] at s2'
          have p4' := p4
          rw [← k42] at p4'
          have s4' := s4
          rw [← k42] at s4'
          clear o1 o2 m1 m2 y1 y2 e6 va vb oo mm
          rw [e211_42]
          simp (disch := first | assumption | omega | (simp (disch := omega) only [wN, w0, w1]; omega)) only [e211_0, e211_1, e211_3, e211_4, e211_7, e211_8, e211_9, e211_12, e211_13, e211_16, e211_17, e211_18, e211_19, e211_20, e211_23, e211_24, e211_25, e211_26, e211_27, e211_30, e211_31, e211_32, e211_33, e211_34, e211_37, e211_38, e211_39, e211_40, e211_41, e211_43, e211_44, e211_47, e211_48, e211_49, e211_50, e211_53, e211_54, e211_55, e211_56, e211_59, e211_60, e211_63, e211_66, e211_67, e211_70, e211_71, e211_72, e211_75, e211_76, e211_77, e211_78, e211_81, e211_82, e211_83, e211_84, e211_85, e211_86, e211_87, e211_88, e211_89, e211_90, e211_93, e211_94, e211_95, e211_98, e211_99, e211_100, e211_101, e211_102, e211_105, e211_106, e211_107, e211_108, e211_111, e211_112, e211_113, e211_114, e211_115, e211_116, e211_119, e211_122, e211_125, e211_126, e211_129, e211_130, e211_131, e211_134, e211_135, e211_136, e211_137, e211_140, e211_141, e211_142, e211_143, e211_144, e211_145, e211_146, e211_147, e211_148, e211_149, e211_152, e211_153, e211_154, e211_157, e211_158, e211_159, e211_160, e211_161, e211_164, e211_165, e211_166, e211_167, e211_170, e211_171, e211_174, e211_177, e211_180, e211_183, kl_I, kl_R, kl_N, kl_L, oSm, oNn, Option.bind_some, wN, if_pos, if_neg, nS, tN, t0, w0, w1, w2, w3, w4, w5, wm1, upA_ne, upA_same, if_true, if_false, Bool.false_eq_true, a1, a2, x1, ra32, rl32, ra33, rl33, ra34, rl34, ra35, rl35, p1, s1, y10, y20, xs, p3, s3, n1, e60, c1, p2', s2', p4', s4', y11, y21, e61]
          refine ih _ ⟨fun y hy => ?_, ⟨?_, ?_, ?_, ?_⟩, (f4.tr (frW.a (by omega) (by omega))).tr (frW.a (by omega) (by omega))⟩
          · simp (disch := omega) only [upA_same, upA_ne, up1_ne]
            exact b4 y hy
          · simp (disch := omega) only [upA_ne, k39, up1_same]
          · simp (disch := omega) only [upA_same, upA_ne, up1_same]
          · simp (disch := omega) only [upA_ne, k41, up1_same]
          · simp (disch := omega) only [upA_same, upA_ne, up1_same]) 0 (Nat.zero_le _)
    rw [e211_2]
    simp (disch := first | assumption | omega | (simp (disch := omega) only [wN, w0, w1]; omega)) only [e211_0, e211_1, e211_3, e211_4, e211_7, e211_8, e211_9, e211_12, e211_13, e211_16, e211_17, e211_18, e211_19, e211_20, e211_23, e211_24, e211_25, e211_26, e211_27, e211_30, e211_31, e211_32, e211_33, e211_34, e211_37, e211_38, e211_39, e211_40, e211_41, e211_43, e211_44, e211_47, e211_48, e211_49, e211_50, e211_53, e211_54, e211_55, e211_56, e211_59, e211_60, e211_63, e211_66, e211_67, e211_70, e211_71, e211_72, e211_75, e211_76, e211_77, e211_78, e211_81, e211_82, e211_83, e211_84, e211_85, e211_86, e211_87, e211_88, e211_89, e211_90, e211_93, e211_94, e211_95, e211_98, e211_99, e211_100, e211_101, e211_102, e211_105, e211_106, e211_107, e211_108, e211_111, e211_112, e211_113, e211_114, e211_115, e211_116, e211_119, e211_122, e211_125, e211_126, e211_129, e211_130, e211_131, e211_134, e211_135, e211_136, e211_137, e211_140, e211_141, e211_142, e211_143, e211_144, e211_145, e211_146, e211_147, e211_148, e211_149, e211_152, e211_153, e211_154, e211_157, e211_158, e211_159, e211_160, e211_161, e211_164, e211_165, e211_166, e211_167, e211_170, e211_171, e211_174, e211_177, e211_180, e211_183, kl_I, kl_R, kl_N, kl_L, oSm, oNn, Option.bind_some, wN, if_pos, if_neg, nS, tN, t0, w0, w1, w2, w3, w4, w5, wm1, upA_ne, upA_same, if_true, if_false, Bool.false_eq_true, ra1, rl1, ra32, rl32, ra33, rl33, ra34, rl34, ra35, rl35, hl]
    refine B _ ⟨fun y hy => ?_, ⟨?_, ?_, ?_, ?_⟩, ?_⟩
    · simp (disch := omega) only [upA_same, upA_ne, up1_ne]
      exact hp.1 y hy
    · simp (disch := omega) only [upA_same, upA_ne, up1_same]; rfl
    · simp (disch := omega) only [upA_same, upA_ne, up1_same]; rfl
    · simp (disch := omega) only [upA_same, upA_ne, up1_same]; rfl
    · simp (disch := omega) only [upA_same, upA_ne, up1_same]; rfl
    · exact (((hp.2.tr (frW.a (by omega) (by omega))).tr (frW.a (by omega) (by omega))).tr (frW.a (by omega) (by omega))).tr (frW.a (by omega) (by omega))) 0 (Nat.zero_le _)
  simp (disch := first | assumption | omega | (simp (disch := omega) only [wN, w0, w1]; omega)) only [e211_0, e211_1, e211_3, e211_4, e211_7, e211_8, e211_9, e211_12, e211_13, e211_16, e211_17, e211_18, e211_19, e211_20, e211_23, e211_24, e211_25, e211_26, e211_27, e211_30, e211_31, e211_32, e211_33, e211_34, e211_37, e211_38, e211_39, e211_40, e211_41, e211_42, e211_43, e211_44, e211_47, e211_48, e211_49, e211_50, e211_53, e211_54, e211_55, e211_56, e211_59, e211_60, e211_63, e211_66, e211_67, e211_70, e211_71, e211_72, e211_75, e211_76, e211_77, e211_78, e211_81, e211_82, e211_83, e211_84, e211_85, e211_86, e211_87, e211_88, e211_89, e211_90, e211_93, e211_94, e211_95, e211_98, e211_99, e211_100, e211_101, e211_102, e211_105, e211_106, e211_107, e211_108, e211_111, e211_112, e211_113, e211_114, e211_115, e211_116, e211_119, e211_122, e211_125, e211_126, e211_129, e211_130, e211_131, e211_134, e211_135, e211_136, e211_137, e211_140, e211_141, e211_142, e211_143, e211_144, e211_145, e211_146, e211_147, e211_148, e211_149, e211_152, e211_153, e211_154, e211_157, e211_158, e211_159, e211_160, e211_161, e211_164, e211_165, e211_166, e211_167, e211_170, e211_171, e211_174, e211_177, e211_180, e211_183, kl_I, kl_R, kl_N, kl_L, oSm, oNn, Option.bind_some, wN, if_pos, if_neg, nS, tN, t0, w0, w1, w2, w3, w4, w5, wm1, upA_ne, upA_same, if_true, if_false, Bool.false_eq_true, q211]
  exact A σ _ ⟨fun y hy => by omega, frW.rf⟩
end MY

