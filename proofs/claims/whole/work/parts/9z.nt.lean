/-! ===== the reference: a route from the layout ===== -/
/-- told swaps are exchanges -/
def swK (S : List Sp) : Prop := ∀ s, s ∈ S → s.2 = true → s.1.1 = 5
theorem swK.app {S : List Sp} {s : Sp} (h : swK S) (hs : s.2 = true → s.1.1 = 5) : swK (S ++ [s]) := fun t ht => by
  rw [List.mem_append, List.mem_singleton] at ht
  rcases ht with h1 | h1
  · exact h t h1
  · rw [h1]; exact hs
theorem rrA_swK {F : Nat → Nat → Nat} {c : List Gt} {A P : Nat → Nat} {x : Nat × (Nat → Nat) × List Sp} (h : swK x.2.2) : ∀ g, swK (rrA F c A P g x).2.2
  | 0 => h
  | g + 1 => by
    rw [rrA]
    split
    · exact (rrA_swK h g).app (fun q => by cases q)
    · exact rrA_swK h g
theorem ruR_swK {F : Nat → Nat → Nat} {c : List Gt} {E : List Ed} {A : Nat → Nat} {look : Nat} : ∀ t (x : RS), swK x.2.1.2.2 → swK (ruR F c E A look t x).1.2.1.2.2
  | 0, x, h => h
  | t + 1, x, h => by
    have hd : swK (ddR F c A x).2.1.2.2 := rrA_swK h _
    rw [ruR]
    split
    · exact hd
    · split
      · exact hd
      · exact ruR_swK t _ (hd.app (fun _ => rfl))
section NT
variable {sh : Shp} {d m n look : Nat} {σ : Mem} {E : List Ed} {a : AX} {z w : Int} {c : List Gt} {P A : Nat → Nat} {b : Bool} {x : RS}
theorem M259 (hz : i32 z) : run sh (d + 1) 259 [mI z] σ = some (some (mI (bi (lkB z))), σ) := by
  have e1 := E164 (sh := sh) (d := d) (σ := σ) (z := z) (w := 0) (v := 5) hz ⟨by omega, by omega⟩ ⟨by omega, by omega⟩
  have e2 := E164 (sh := sh) (d := d) (σ := σ) (z := z) (w := 10) (v := 15) hz ⟨by omega, by omega⟩ ⟨by omega, by omega⟩
  unfold lkB
  by_cases h1 : 0 ≤ z ∧ z ≤ 5
  · rw [if_pos h1] at e1
    rw [decide_eq_true (Or.inl h1)]
    simp (disch := first | assumption | omega | (simp (disch := omega) only [wN, w0, w1]; omega)) only [e259_0, e259_1, e259_2, e259_3, e259_6, e259_9, e259_10, e259_12, e259_14, e259_17, e259_20, e259_21, e259_24, e259_25, kl_I, kl_R, kl_N, kl_L, oSm, oNn, Option.bind_some, wN, if_pos, if_neg, nS, tN, t0, w0, w1, w2, w3, w4, w5, wm1, upA_ne, upA_same, if_true, if_false, Bool.false_eq_true, q259, e1]
    rfl
  · rw [if_neg h1] at e1
    by_cases h2 : 10 ≤ z ∧ z ≤ 15
    · rw [if_pos h2] at e2
      rw [decide_eq_true (Or.inr h2)]
      simp (disch := first | assumption | omega | (simp (disch := omega) only [wN, w0, w1]; omega)) only [e259_0, e259_1, e259_2, e259_3, e259_6, e259_9, e259_10, e259_12, e259_14, e259_17, e259_20, e259_21, e259_24, e259_25, kl_I, kl_R, kl_N, kl_L, oSm, oNn, Option.bind_some, wN, if_pos, if_neg, nS, tN, t0, w0, w1, w2, w3, w4, w5, wm1, upA_ne, upA_same, if_true, if_false, Bool.false_eq_true, q259, e1, e2]
      rfl
    · rw [if_neg h2] at e2
      rw [decide_eq_false (by omega)]
      simp (disch := first | assumption | omega | (simp (disch := omega) only [wN, w0, w1]; omega)) only [e259_0, e259_1, e259_2, e259_3, e259_6, e259_9, e259_10, e259_12, e259_14, e259_17, e259_20, e259_21, e259_24, e259_25, kl_I, kl_R, kl_N, kl_L, oSm, oNn, Option.bind_some, wN, if_pos, if_neg, nS, tN, t0, w0, w1, w2, w3, w4, w5, wm1, upA_ne, upA_same, if_true, if_false, Bool.false_eq_true, q259, e1, e2]
      rfl
/-- what is known once a route is found -/
def poM (sh : Shp) (σ' : Mem) (a : AX) (z : Int) : Prop := (rtA a z).2 = true → RV true σ' a.1.1 (rtA a z).1.1 (rtA a z).1.2.1 ∧ σ'.1 124 47 = ((rtA a z).1.2.2 : Int)
theorem M257 (hM : MS sh) (h : InvM sh σ a) (hlk : lkB z = true) (hmn : ¬ a.1.2.2.1 < a.1.1) : End (run sh (d + 6) 257 [mR 124, mI z] σ) (fun r σ' => r = some (mI (bi (rtA a z).2)) ∧ InvM sh σ' a ∧ poM sh σ' a z) := by
  have hI := h
  have mo := hM.1
  have m160 := hM.2.1
  obtain ⟨ra4, rk4, rl4⟩ := ms4 hM
  obtain ⟨ra41, rk41, rl41⟩ := ms41 hM
  obtain ⟨ra43, rk43, rl43⟩ := ms43 hM
  obtain ⟨⟨n, c, m, E, P, x⟩, K, B, s, T⟩ := a
  obtain ⟨⟨hG, hN, hMp, hEl, hx0, hE, hP, hoS⟩, hik, hKp, hTp, h140, hTm⟩ := id h
  replace hG : HGm σ 0 c := hG
  replace hN : σ.1 124 8 = (n : Int) := hN
  replace hMp : σ.1 124 9 = (m : Int) := hMp
  replace hEl : σ.1 124 10 = (E.length : Int) := hEl
  replace hx0 : σ.1 124 11 = (x : Int) := hx0
  replace hE : HEm σ 127 128 E := hE
  replace hP : ∀ y, y < n → σ.1 129 y = (P y : Int) := hP
  replace hoS : okZ n c m E P x := hoS
  replace hTp : HPm σ B s := hTp
  replace h140 : s ≤ 140 := h140
  replace hTm : HT sh σ 157 T := hTm
  replace hik : σ.1 124 16 = bi K.isSome := hik
  obtain ⟨n1, n4', c30, hv, m2, m5, E10, hvE, hPk, x16⟩ := id hoS
  have hz2 : (0 ≤ z ∧ z ≤ 5) ∨ (10 ≤ z ∧ z ≤ 15) := of_decide_eq_true hlk
  have wz : wi z = z := wi_id (by omega) (by omega)
  obtain ⟨zn, rfl⟩ : ∃ k : Nat, z = (k : Int) := ⟨z.toNat, by omega⟩
  have hP2 := hPk (by show n ≤ m; have : ¬ m < n := hmn; omega)
  have x1 := xrem_10 (a := zn) (by omega)
  have w10 : wi 10 = 10 := rfl
  have lk : ((if (10 : Int) ≤ (zn : Int) then (zn : Int) - 10 else (zn : Int)).toNat) = zn % 10 := by
    split <;> omega
  have l5 : zn % 10 ≤ 5 := by omega
  obtain ⟨r, σ1, a1, rfl, a2, a3⟩ := M244 (d := d + 1) (lo := decide ((10 : Int) ≤ (zn : Int))) hM hG c30 hv hN n4' hMp hEl hE hvE m5 E10
  have rt : rtA ((n, c, m, E, P, x), K, B, s, T) (zn : Int) = ruR (farE E) c E (ahS (decide ((10 : Int) ≤ (zn : Int))) c) (zn % 10) 41 (x0R P) := by
    show ruR _ _ _ _ _ _ _ = _
    rw [lk]
  unfold poM
  rw [rt]
  generalize hAA : ahS (decide ((10 : Int) ≤ (zn : Int))) c = A at *
  have hA : ∀ g, g < c.length → A g < 2 ^ g := fun g hg => (a2.2.2.1 g hg).2
  let G := fun (r : Option MV) (σ' : Mem) => r = some (mI (bi (ruR (farE E) c E A (zn % 10) 41 (x0R P)).2)) ∧ InvM sh σ' ((n, c, m, E, P, x), K, B, s, T) ∧ ((ruR (farE E) c E A (zn % 10) 41 (x0R P)).2 = true → RV true σ' n (ruR (farE E) c E A (zn % 10) 41 (x0R P)).1.1 (ruR (farE E) c E A (zn % 10) 41 (x0R P)).1.2.1 ∧ σ'.1 124 47 = ((ruR (farE E) c E A (zn % 10) 41 (x0R P)).1.2.2 : Int))
  have okx := okR_0 (c := c) hP2
  have C : ∀ σ2, frW 137 151 46 50 σ σ2 → RC σ2 n m c E A → HLm σ2 147 n P → (∀ l, n ≤ l → l < 4 → σ2.1 147 l = -1) → σ2.1 124 46 = 0 → σ2.1 124 47 = 0 → σ2.1 124 48 = 0 → End (ev sh (d + 6) 257 73 [some (mR (124)), some (mI ((zn : Int))), some (mI ((zn % 10 : Nat) : Int)), some (mI ((0 : Nat) : Int))] [] σ2) G := by
    intro σ2 f2 hR hL hLx h46 h47 h48
    have L := for_P (5) (fun i => ∀ (σ3 : Mem), ((∀ p, p < i → σ3.1 149 p = 0) ∧ frW 149 149 1 0 σ2 σ3) → End (ev sh (d + 6) 257 73 [some (mR (124)), some (mI ((zn : Int))), some (mI ((zn % 10 : Nat) : Int)), some (mI ((i : Nat) : Int))] [] σ3) (G)) (by
      intro σ3  hp
      replace hp : (∀ p, p < (5) → σ3.1 149 p = 0) ∧ frW 149 149 1 0 σ2 σ3 := hp
      show End (ev sh (d + 6) 257 73 [some (mR (124)), some (mI ((zn : Int))), some (mI ((zn % 10 : Nat) : Int)), some (mI (((5) : Nat) : Int))] [] σ3) (G)
      obtain ⟨q1, q2⟩ := hp
      have hR3 := hR.W q2 (by omega) (by omega)
      have hV3 : RV true σ3 n P (0, fun _ => 0, []) := by
        refine ⟨fun y hy => ?_, fun l p q => ?_, by rw [q2.2 48 (by omega)]; exact h48, fun _ p hp => q1 p hp, by rw [q2.2 46 (by omega)]; exact h46, fun j hj => by cases hj⟩
        · rw [(q2.1 147 (by omega) (by omega)).1]; exact hL y hy
        · rw [(q2.1 147 (by omega) (by omega)).1]; exact hLx l p q
      obtain ⟨r, σ4, b1, rfl, b2, b3, b4⟩ := M250 (d := d + 1) (x := (0, fun _ => 0, [])) hM c30 hv n4' m5 hP2 (Nat.two_pow_pos _) (by simp only [List.length_nil]; omega) hR3 hV3
      have k47 : σ4.1 124 47 = ((x0R P).2.2 : Int) := by rw [b4, q2.2 47 (by omega)]; exact h47
      have fin := M257l (d := d + 1) (z := (zn : Int)) (look := zn % 10) hM c30 hv n4' m5 hvE E10 l5 hA 41 (x0R P) σ4 (some (mI 5)) rfl okx (hR3.W b3 (by omega) (by omega)) b2 k47
      rw [e257_73]
      simp (disch := first | assumption | omega | (simp (disch := omega) only [wN, w0, w1]; omega)) only [e257_0, e257_1, e257_2, e257_3, e257_6, e257_7, e257_10, e257_11, e257_14, e257_15, e257_17, e257_18, e257_19, e257_20, e257_21, e257_24, e257_25, e257_26, e257_29, e257_30, e257_31, e257_34, e257_35, e257_37, e257_38, e257_41, e257_42, e257_45, e257_46, e257_47, e257_48, e257_51, e257_54, e257_55, e257_58, e257_59, e257_60, e257_63, e257_64, e257_65, e257_68, e257_71, e257_72, e257_74, e257_75, e257_78, e257_79, e257_82, e257_83, e257_84, e257_85, e257_88, e257_91, e257_92, e257_96, e257_99, e257_102, e257_103, e257_106, e257_107, e257_108, e257_111, e257_112, e257_113, e257_116, e257_117, e257_120, e257_121, e257_122, e257_123, e257_126, e257_127, e257_130, e257_132, e257_135, e257_136, e257_137, e257_138, e257_139, e257_142, e257_143, e257_144, e257_147, e257_148, e257_149, e257_150, e257_153, e257_154, e257_155, e257_156, e257_159, e257_160, e257_161, e257_162, e257_163, e257_166, e257_167, e257_170, e257_171, e257_174, e257_175, e257_176, e257_177, e257_180, e257_181, e257_182, e257_185, e257_186, e257_189, e257_190, e257_193, e257_194, e257_195, e257_196, e257_199, e257_200, e257_203, e257_204, e257_205, e257_206, e257_207, e257_208, e257_209, e257_210, e257_213, e257_214, e257_217, e257_218, e257_219, e257_220, e257_223, e257_224, e257_227, e257_228, e257_229, e257_230, e257_231, e257_232, e257_233, e257_234, e257_237, e257_240, e257_241, kl_I, kl_R, kl_N, kl_L, oSm, oNn, Option.bind_some, wN, if_pos, if_neg, nS, tN, t0, w0, w1, w2, w3, w4, w5, wm1, upA_ne, upA_same, if_true, if_false, Bool.false_eq_true, b1]
      refine fin.imp fun r σ' q => ⟨q.1, hI.W (f2.tr ((q2.w (by omega) (by omega) (by omega) (by omega)).tr ((b3.w (by omega) (by omega) (by omega) (by omega)).tr (q.2.2.w (by omega) (by omega) (by omega) (by omega))))) (by omega) (by omega) (by omega), q.2.1⟩) (fun i hi ih => by
      replace ih : ∀ (σ3 : Mem), ((∀ p, p < (i + 1) → σ3.1 149 p = 0) ∧ frW 149 149 1 0 σ2 σ3) → End (ev sh (d + 6) 257 73 [some (mR (124)), some (mI ((zn : Int))), some (mI ((zn % 10 : Nat) : Int)), some (mI (((i + 1) : Nat) : Int))] [] σ3) (G) := ih
      intro σ3  hp
      replace hp : (∀ p, p < i → σ3.1 149 p = 0) ∧ frW 149 149 1 0 σ2 σ3 := hp
      show End (ev sh (d + 6) 257 73 [some (mR (124)), some (mI ((zn : Int))), some (mI ((zn % 10 : Nat) : Int)), some (mI ((i : Nat) : Int))] [] σ3) (G)
      rw [e257_73]
      simp (disch := first | assumption | omega | (simp (disch := omega) only [wN, w0, w1]; omega)) only [e257_0, e257_1, e257_2, e257_3, e257_6, e257_7, e257_10, e257_11, e257_14, e257_15, e257_17, e257_18, e257_19, e257_20, e257_21, e257_24, e257_25, e257_26, e257_29, e257_30, e257_31, e257_34, e257_35, e257_37, e257_38, e257_41, e257_42, e257_45, e257_46, e257_47, e257_48, e257_51, e257_54, e257_55, e257_58, e257_59, e257_60, e257_63, e257_64, e257_65, e257_68, e257_71, e257_72, e257_74, e257_75, e257_78, e257_79, e257_82, e257_83, e257_84, e257_85, e257_88, e257_91, e257_92, e257_96, e257_99, e257_102, e257_103, e257_106, e257_107, e257_108, e257_111, e257_112, e257_113, e257_116, e257_117, e257_120, e257_121, e257_122, e257_123, e257_126, e257_127, e257_130, e257_132, e257_135, e257_136, e257_137, e257_138, e257_139, e257_142, e257_143, e257_144, e257_147, e257_148, e257_149, e257_150, e257_153, e257_154, e257_155, e257_156, e257_159, e257_160, e257_161, e257_162, e257_163, e257_166, e257_167, e257_170, e257_171, e257_174, e257_175, e257_176, e257_177, e257_180, e257_181, e257_182, e257_185, e257_186, e257_189, e257_190, e257_193, e257_194, e257_195, e257_196, e257_199, e257_200, e257_203, e257_204, e257_205, e257_206, e257_207, e257_208, e257_209, e257_210, e257_213, e257_214, e257_217, e257_218, e257_219, e257_220, e257_223, e257_224, e257_227, e257_228, e257_229, e257_230, e257_231, e257_232, e257_233, e257_234, e257_237, e257_240, e257_241, kl_I, kl_R, kl_N, kl_L, oSm, oNn, Option.bind_some, wN, if_pos, if_neg, nS, tN, t0, w0, w1, w2, w3, w4, w5, wm1, upA_ne, upA_same, if_true, if_false, Bool.false_eq_true, ra43, rl43]
      refine ih _ ⟨fun p hp5 => ?_, hp.2.tr (frW.a (a := 149) (by omega) (by omega))⟩
      simp (disch := omega) only [upA_same]
      by_cases q : p = i
      · rw [q, up1_same]
      · rw [up1_ne q]; exact hp.1 p (by omega)) 0 (Nat.zero_le _)
    exact L σ2 ⟨fun p hp => by omega, frW.rf⟩
  have B2 : ∀ σ2, frW 137 151 46 50 σ σ2 → RC σ2 n m c E A → σ2.1 124 46 = 0 → σ2.1 124 47 = 0 → σ2.1 124 48 = 0 → End (ev sh (d + 6) 257 36 [some (mR (124)), some (mI ((zn : Int))), some (mI ((zn % 10 : Nat) : Int)), some (mI ((0 : Nat) : Int))] [] σ2) G := by
    intro σ2 f2 hR h46 h47 h48
    have L := for_P (4) (fun i => ∀ (σ3 : Mem), ((∀ l, l < i → σ3.1 147 l = if l < n then (P l : Int) else -1) ∧ frW 147 147 1 0 σ2 σ3) → End (ev sh (d + 6) 257 36 [some (mR (124)), some (mI ((zn : Int))), some (mI ((zn % 10 : Nat) : Int)), some (mI ((i : Nat) : Int))] [] σ3) (G)) (by
      intro σ3  hp
      replace hp : (∀ l, l < (4) → σ3.1 147 l = if l < n then (P l : Int) else -1) ∧ frW 147 147 1 0 σ2 σ3 := hp
      show End (ev sh (d + 6) 257 36 [some (mR (124)), some (mI ((zn : Int))), some (mI ((zn % 10 : Nat) : Int)), some (mI (((4) : Nat) : Int))] [] σ3) (G)
      obtain ⟨q1, q2⟩ := hp
      rw [e257_36]
      simp (disch := first | assumption | omega | (simp (disch := omega) only [wN, w0, w1]; omega)) only [e257_0, e257_1, e257_2, e257_3, e257_6, e257_7, e257_10, e257_11, e257_14, e257_15, e257_17, e257_18, e257_19, e257_20, e257_21, e257_24, e257_25, e257_26, e257_29, e257_30, e257_31, e257_34, e257_35, e257_37, e257_38, e257_41, e257_42, e257_45, e257_46, e257_47, e257_48, e257_51, e257_54, e257_55, e257_58, e257_59, e257_60, e257_63, e257_64, e257_65, e257_68, e257_71, e257_72, e257_74, e257_75, e257_78, e257_79, e257_82, e257_83, e257_84, e257_85, e257_88, e257_91, e257_92, e257_96, e257_99, e257_102, e257_103, e257_106, e257_107, e257_108, e257_111, e257_112, e257_113, e257_116, e257_117, e257_120, e257_121, e257_122, e257_123, e257_126, e257_127, e257_130, e257_132, e257_135, e257_136, e257_137, e257_138, e257_139, e257_142, e257_143, e257_144, e257_147, e257_148, e257_149, e257_150, e257_153, e257_154, e257_155, e257_156, e257_159, e257_160, e257_161, e257_162, e257_163, e257_166, e257_167, e257_170, e257_171, e257_174, e257_175, e257_176, e257_177, e257_180, e257_181, e257_182, e257_185, e257_186, e257_189, e257_190, e257_193, e257_194, e257_195, e257_196, e257_199, e257_200, e257_203, e257_204, e257_205, e257_206, e257_207, e257_208, e257_209, e257_210, e257_213, e257_214, e257_217, e257_218, e257_219, e257_220, e257_223, e257_224, e257_227, e257_228, e257_229, e257_230, e257_231, e257_232, e257_233, e257_234, e257_237, e257_240, e257_241, kl_I, kl_R, kl_N, kl_L, oSm, oNn, Option.bind_some, wN, if_pos, if_neg, nS, tN, t0, w0, w1, w2, w3, w4, w5, wm1, upA_ne, upA_same, if_true, if_false, Bool.false_eq_true]
      refine C σ3 (f2.tr (q2.w (by omega) (by omega) (by omega) (by omega))) (hR.W q2 (by omega) (by omega)) (fun y hy => ?_) (fun l p q => ?_) ?_ ?_ ?_
      · rw [q1 y (by omega), if_pos hy]
      · rw [q1 l q, if_neg (by omega)]
      · rw [q2.2 46 (by omega)]; exact h46
      · rw [q2.2 47 (by omega)]; exact h47
      · rw [q2.2 48 (by omega)]; exact h48) (fun i hi ih => by
      replace ih : ∀ (σ3 : Mem), ((∀ l, l < (i + 1) → σ3.1 147 l = if l < n then (P l : Int) else -1) ∧ frW 147 147 1 0 σ2 σ3) → End (ev sh (d + 6) 257 36 [some (mR (124)), some (mI ((zn : Int))), some (mI ((zn % 10 : Nat) : Int)), some (mI (((i + 1) : Nat) : Int))] [] σ3) (G) := ih
      intro σ3  hp
      replace hp : (∀ l, l < i → σ3.1 147 l = if l < n then (P l : Int) else -1) ∧ frW 147 147 1 0 σ2 σ3 := hp
      show End (ev sh (d + 6) 257 36 [some (mR (124)), some (mI ((zn : Int))), some (mI ((zn % 10 : Nat) : Int)), some (mI ((i : Nat) : Int))] [] σ3) (G)
      obtain ⟨q1, q2⟩ := hp
      have hN3 : σ3.1 124 8 = (n : Int) := (hR.W q2 (by omega) (by omega)).2.2.2.2.2
      have fin : ∀ v : Int, v = (if i < n then (P i : Int) else -1) → End (ev sh (d + 6) 257 36 [some (mR (124)), some (mI ((zn : Int))), some (mI ((zn % 10 : Nat) : Int)), some (mI ((i + 1 : Nat) : Int))] [] (upA σ3.1 147 (up1 (σ3.1 147) i v), σ3.2)) G := fun v hv0 => by
        refine ih _ ⟨fun l hl => ?_, q2.tr (frW.a (a := 147) (by omega) (by omega))⟩
        simp (disch := omega) only [upA_same]
        by_cases q : l = i
        · rw [q, up1_same]; exact hv0
        · rw [up1_ne q]; exact q1 l (by omega)
      rw [e257_36]
      by_cases hin : i < n
      · rw [if_pos hin] at fin
        have g : σ3.1 129 i = (P i : Int) := by rw [((f2.tr (q2.w (by omega) (by omega) (by omega) (by omega))).1 129 (by omega) (by omega)).1]; exact hP i hin
        simp (disch := first | assumption | omega | (simp (disch := omega) only [wN, w0, w1]; omega)) only [e257_0, e257_1, e257_2, e257_3, e257_6, e257_7, e257_10, e257_11, e257_14, e257_15, e257_17, e257_18, e257_19, e257_20, e257_21, e257_24, e257_25, e257_26, e257_29, e257_30, e257_31, e257_34, e257_35, e257_37, e257_38, e257_41, e257_42, e257_45, e257_46, e257_47, e257_48, e257_51, e257_54, e257_55, e257_58, e257_59, e257_60, e257_63, e257_64, e257_65, e257_68, e257_71, e257_72, e257_74, e257_75, e257_78, e257_79, e257_82, e257_83, e257_84, e257_85, e257_88, e257_91, e257_92, e257_96, e257_99, e257_102, e257_103, e257_106, e257_107, e257_108, e257_111, e257_112, e257_113, e257_116, e257_117, e257_120, e257_121, e257_122, e257_123, e257_126, e257_127, e257_130, e257_132, e257_135, e257_136, e257_137, e257_138, e257_139, e257_142, e257_143, e257_144, e257_147, e257_148, e257_149, e257_150, e257_153, e257_154, e257_155, e257_156, e257_159, e257_160, e257_161, e257_162, e257_163, e257_166, e257_167, e257_170, e257_171, e257_174, e257_175, e257_176, e257_177, e257_180, e257_181, e257_182, e257_185, e257_186, e257_189, e257_190, e257_193, e257_194, e257_195, e257_196, e257_199, e257_200, e257_203, e257_204, e257_205, e257_206, e257_207, e257_208, e257_209, e257_210, e257_213, e257_214, e257_217, e257_218, e257_219, e257_220, e257_223, e257_224, e257_227, e257_228, e257_229, e257_230, e257_231, e257_232, e257_233, e257_234, e257_237, e257_240, e257_241, kl_I, kl_R, kl_N, kl_L, oSm, oNn, Option.bind_some, wN, if_pos, if_neg, nS, tN, t0, w0, w1, w2, w3, w4, w5, wm1, upA_ne, upA_same, if_true, if_false, Bool.false_eq_true, ra41, rl41, ra4, rl4, hN3, g]
        exact fin _ rfl
      · rw [if_neg hin] at fin
        simp (disch := first | assumption | omega | (simp (disch := omega) only [wN, w0, w1]; omega)) only [e257_0, e257_1, e257_2, e257_3, e257_6, e257_7, e257_10, e257_11, e257_14, e257_15, e257_17, e257_18, e257_19, e257_20, e257_21, e257_24, e257_25, e257_26, e257_29, e257_30, e257_31, e257_34, e257_35, e257_37, e257_38, e257_41, e257_42, e257_45, e257_46, e257_47, e257_48, e257_51, e257_54, e257_55, e257_58, e257_59, e257_60, e257_63, e257_64, e257_65, e257_68, e257_71, e257_72, e257_74, e257_75, e257_78, e257_79, e257_82, e257_83, e257_84, e257_85, e257_88, e257_91, e257_92, e257_96, e257_99, e257_102, e257_103, e257_106, e257_107, e257_108, e257_111, e257_112, e257_113, e257_116, e257_117, e257_120, e257_121, e257_122, e257_123, e257_126, e257_127, e257_130, e257_132, e257_135, e257_136, e257_137, e257_138, e257_139, e257_142, e257_143, e257_144, e257_147, e257_148, e257_149, e257_150, e257_153, e257_154, e257_155, e257_156, e257_159, e257_160, e257_161, e257_162, e257_163, e257_166, e257_167, e257_170, e257_171, e257_174, e257_175, e257_176, e257_177, e257_180, e257_181, e257_182, e257_185, e257_186, e257_189, e257_190, e257_193, e257_194, e257_195, e257_196, e257_199, e257_200, e257_203, e257_204, e257_205, e257_206, e257_207, e257_208, e257_209, e257_210, e257_213, e257_214, e257_217, e257_218, e257_219, e257_220, e257_223, e257_224, e257_227, e257_228, e257_229, e257_230, e257_231, e257_232, e257_233, e257_234, e257_237, e257_240, e257_241, kl_I, kl_R, kl_N, kl_L, oSm, oNn, Option.bind_some, wN, if_pos, if_neg, nS, tN, t0, w0, w1, w2, w3, w4, w5, wm1, upA_ne, upA_same, if_true, if_false, Bool.false_eq_true, ra41, rl41, hN3]
        exact fin _ rfl) 0 (Nat.zero_le _)
    exact L σ2 ⟨fun p hp => by omega, frW.rf⟩
  have f1 : frW 137 151 46 50 σ (upA (upA (upA σ1.1 124 (up1 (σ1.1 124) 46 0)) 124 (up1 (up1 (σ1.1 124) 46 0) 47 0)) 124 (up1 (up1 (up1 (σ1.1 124) 46 0) 47 0) 48 0), σ1.2) := by
    refine (a3.w (by omega) (by omega) (by omega) (by omega)).tr ⟨fun b hb h4 => ⟨?_, rfl⟩, fun i hi => ?_⟩
    · simp (disch := omega) only [upA_ne]
    · simp (disch := omega) only [upA_same, up1_ne]
  have fr0 : frW 1 0 46 48 σ1 (upA (upA (upA σ1.1 124 (up1 (σ1.1 124) 46 0)) 124 (up1 (up1 (σ1.1 124) 46 0) 47 0)) 124 (up1 (up1 (up1 (σ1.1 124) 46 0) 47 0) 48 0), σ1.2) := by
    refine ⟨fun b hb h4 => ⟨?_, rfl⟩, fun i hi => ?_⟩
    · simp (disch := omega) only [upA_ne]
    · simp (disch := omega) only [upA_same, up1_ne]
  have B3 := B2 _ f1 (a2.W fr0 (by omega) (by omega)) (by simp (disch := omega) only [upA_same, up1_ne, up1_same]) (by simp (disch := omega) only [upA_same, up1_ne, up1_same]) (by simp (disch := omega) only [upA_same, up1_same])
  simp only [upA_upA] at B3
  by_cases h10 : (10 : Int) ≤ (zn : Int)
  · rw [decide_eq_true h10] at a1
    replace a1 : run sh (d + 5) 244 [mR 124, mI 1] σ = some (none, σ1) := a1
    have h5 : ¬ zn ≤ 5 := by omega
    simp (disch := first | assumption | omega | (simp (disch := omega) only [wN, w0, w1]; omega)) only [e257_0, e257_1, e257_2, e257_3, e257_6, e257_7, e257_10, e257_11, e257_14, e257_15, e257_17, e257_18, e257_19, e257_20, e257_21, e257_24, e257_25, e257_26, e257_29, e257_30, e257_31, e257_34, e257_35, e257_37, e257_38, e257_41, e257_42, e257_45, e257_46, e257_47, e257_48, e257_51, e257_54, e257_55, e257_58, e257_59, e257_60, e257_63, e257_64, e257_65, e257_68, e257_71, e257_72, e257_74, e257_75, e257_78, e257_79, e257_82, e257_83, e257_84, e257_85, e257_88, e257_91, e257_92, e257_96, e257_99, e257_102, e257_103, e257_106, e257_107, e257_108, e257_111, e257_112, e257_113, e257_116, e257_117, e257_120, e257_121, e257_122, e257_123, e257_126, e257_127, e257_130, e257_132, e257_135, e257_136, e257_137, e257_138, e257_139, e257_142, e257_143, e257_144, e257_147, e257_148, e257_149, e257_150, e257_153, e257_154, e257_155, e257_156, e257_159, e257_160, e257_161, e257_162, e257_163, e257_166, e257_167, e257_170, e257_171, e257_174, e257_175, e257_176, e257_177, e257_180, e257_181, e257_182, e257_185, e257_186, e257_189, e257_190, e257_193, e257_194, e257_195, e257_196, e257_199, e257_200, e257_203, e257_204, e257_205, e257_206, e257_207, e257_208, e257_209, e257_210, e257_213, e257_214, e257_217, e257_218, e257_219, e257_220, e257_223, e257_224, e257_227, e257_228, e257_229, e257_230, e257_231, e257_232, e257_233, e257_234, e257_237, e257_240, e257_241, kl_I, kl_R, kl_N, kl_L, oSm, oNn, Option.bind_some, wN, if_pos, if_neg, nS, tN, t0, w0, w1, w2, w3, w4, w5, wm1, upA_ne, upA_same, if_true, if_false, Bool.false_eq_true, q257, a1, x1, w10, upA_upA]
    exact B3
  · rw [decide_eq_false h10] at a1
    replace a1 : run sh (d + 5) 244 [mR 124, mI 0] σ = some (none, σ1) := a1
    have h5 : zn ≤ 5 := by omega
    simp (disch := first | assumption | omega | (simp (disch := omega) only [wN, w0, w1]; omega)) only [e257_0, e257_1, e257_2, e257_3, e257_6, e257_7, e257_10, e257_11, e257_14, e257_15, e257_17, e257_18, e257_19, e257_20, e257_21, e257_24, e257_25, e257_26, e257_29, e257_30, e257_31, e257_34, e257_35, e257_37, e257_38, e257_41, e257_42, e257_45, e257_46, e257_47, e257_48, e257_51, e257_54, e257_55, e257_58, e257_59, e257_60, e257_63, e257_64, e257_65, e257_68, e257_71, e257_72, e257_74, e257_75, e257_78, e257_79, e257_82, e257_83, e257_84, e257_85, e257_88, e257_91, e257_92, e257_96, e257_99, e257_102, e257_103, e257_106, e257_107, e257_108, e257_111, e257_112, e257_113, e257_116, e257_117, e257_120, e257_121, e257_122, e257_123, e257_126, e257_127, e257_130, e257_132, e257_135, e257_136, e257_137, e257_138, e257_139, e257_142, e257_143, e257_144, e257_147, e257_148, e257_149, e257_150, e257_153, e257_154, e257_155, e257_156, e257_159, e257_160, e257_161, e257_162, e257_163, e257_166, e257_167, e257_170, e257_171, e257_174, e257_175, e257_176, e257_177, e257_180, e257_181, e257_182, e257_185, e257_186, e257_189, e257_190, e257_193, e257_194, e257_195, e257_196, e257_199, e257_200, e257_203, e257_204, e257_205, e257_206, e257_207, e257_208, e257_209, e257_210, e257_213, e257_214, e257_217, e257_218, e257_219, e257_220, e257_223, e257_224, e257_227, e257_228, e257_229, e257_230, e257_231, e257_232, e257_233, e257_234, e257_237, e257_240, e257_241, kl_I, kl_R, kl_N, kl_L, oSm, oNn, Option.bind_some, wN, if_pos, if_neg, nS, tN, t0, w0, w1, w2, w3, w4, w5, wm1, upA_ne, upA_same, if_true, if_false, Bool.false_eq_true, q257, a1, x1, w10, upA_upA]
    exact B3
end NT

