/-! ===== the law: a circuit, drawn and looked into ===== -/
section PG8
variable {d ρ : Nat}
/-- numbers drawn: how many lines -/
theorem B288s {L q : Nat} {sh : Shp} {kk : Nat} {σ : Mem} {a : AX} {v5 v6 : Option MV} (hI : LI (sh, σ, kk) a) (hs : a.2.2.2.1 = 0) (hq : q < 5) (r9 : 124 ≤ ρ) (wρ : ρ < sh.1) (kρ : skd sh ρ = 0) (lρ : sln sh ρ = 1) (ks : skd sh 1000001 = 0) (ls : sln sh 1000001 = L) (hL : L ≤ 260) (hN : sh.1 < 1000000) (p5 : pok sh.1 v5 = true) (p6 : pok sh.1 v6 = true) :
    ∃ (σ' : Mem) (a' : AX) (n my : Nat), pv (d + 11) 288 76 [some (mR (1000001)), some (mR (0)), some (mR (ρ)), some (mI (1)), some (mI ((q : Nat) : Int)), v5, v6] [] (sh, σ, kk) = pv (d + 11) 288 175 [some (mR (1000001)), some (mR (0)), some (mR (ρ)), some (mI (1)), some (mI ((q : Nat) : Int)), some (mI ((n : Nat) : Int)), v6] (.inl 6 :: .inl (my : Int) :: .inl (n : Int) :: .inr (.inr ρ) :: .inr (.inr 0) :: []) (sh, σ', kk) ∧ LI (sh, σ', kk) a' ∧ a'.1.1 = n ∧ a'.2.2.2.1 = 0 ∧ 1 ≤ n ∧ n ≤ 4 ∧ my ≤ 23 := by
  have wL : wi (L : Int) = (L : Int) := wN (by omega)
  have w1' : wi ((1 : Nat) : Int) = 1 := rfl
  have hn9 := hI.n.1
  replace hn9 : 124 ≤ sh.1 := hn9
  -- the number is changed
  have E1 : ∃ (v : Int), pv (d + 11) 288 76 [some (mR (1000001)), some (mR (0)), some (mR (ρ)), some (mI (1)), some (mI ((q : Nat) : Int)), v5, v6] [] (sh, σ, kk) = pv (d + 11) 288 103 [some (mR (1000001)), some (mR (0)), some (mR (ρ)), some (mI (1)), some (mI ((q : Nat) : Int)), v5, v6] [] (sh, (upA σ.1 ρ (up1 (σ.1 ρ) 0 v), σ.2), kk) := by
    by_cases h : q < L
    · refine ⟨xxor (σ.1 ρ 0) (σ.1 1000001 q), ?_⟩
      rw [e288_76]
      simp (disch := first | assumption | omega | (simp (disch := omega) only [wN, w0, w1]; omega)) only [e288_78, e288_79, e288_82, e288_83, e288_84, e288_85, e288_86, e288_88, e288_89, e288_90, e288_93, e288_94, e288_96, e288_97, e288_100, e288_101, e288_102, kl_I, kl_R, kl_N, kl_L, oSm, oNn, Option.bind_some, wN, if_pos, if_neg, nS, tN, t0, w0, w1, w2, w3, w4, w5, wm1, upA_ne, upA_same, if_true, if_false, Bool.false_eq_true, ls, wL, lρ]
    · refine ⟨xxor (σ.1 ρ 0) 0, ?_⟩
      rw [e288_76]
      simp (disch := first | assumption | omega | (simp (disch := omega) only [wN, w0, w1]; omega)) only [e288_78, e288_79, e288_82, e288_83, e288_84, e288_85, e288_86, e288_88, e288_89, e288_90, e288_93, e288_94, e288_96, e288_97, e288_100, e288_101, e288_102, kl_I, kl_R, kl_N, kl_L, oSm, oNn, Option.bind_some, wN, if_pos, if_neg, nS, tN, t0, w0, w1, w2, w3, w4, w5, wm1, upA_ne, upA_same, if_true, if_false, Bool.false_eq_true, ls, wL, lρ]
  obtain ⟨v, E1⟩ := E1
  have L1 : LI (sh, (upA σ.1 ρ (up1 (σ.1 ρ) 0 v), σ.2), kk) a := hI.up1 r9 (by omega)
  generalize ((upA σ.1 ρ (up1 (σ.1 ρ) 0 v), σ.2) : Mem) = σ1 at E1 L1
  obtain ⟨x, σ2, xl, qx, L2, -⟩ := nx L1 r9 (by omega) kρ lρ wρ
  obtain ⟨n, hn, n1, n4⟩ : ∃ n : Nat, 1 + xrem (x : Int) (if q = 4 then 4 else 3) = (n : Int) ∧ 1 ≤ n ∧ n ≤ 4 := by
    by_cases e : q = 4
    · rw [if_pos e]
      have h := xrem_nn (a := x) (b := 4) (by omega) (by omega)
      replace h : xrem (x : Int) 4 = ((x % 4 : Nat) : Int) := h
      have := Nat.mod_lt x (show 4 > 0 by omega)
      exact ⟨1 + x % 4, by rw [h]; omega, by omega, by omega⟩
    · rw [if_neg e]
      have h := xrem_nn (a := x) (b := 3) (by omega) (by omega)
      replace h : xrem (x : Int) 3 = ((x % 3 : Nat) : Int) := h
      have := Nat.mod_lt x (show 3 > 0 by omega)
      exact ⟨1 + x % 3, by rw [h]; omega, by omega, by omega⟩
  have hwn : wi (n : Int) = (n : Int) := wN (by omega)
  have aL : aLines a (n : Int) = (1, ((n, [], a.1.2.2.1, a.1.2.2.2.1, fun y => y, a.1.2.2.2.2.2), a.2)) := by
    unfold aLines
    rw [if_neg (by omega), Int.toNat_natCast]
  obtain ⟨σ3, x3, L3, -⟩ := cLin (d := d + 8) (z := (n : Int)) L2 (i32N (by omega))
  rw [aL] at x3 L3
  have x4 := cCn1 (d := d + 9) L3
  have x5 := cCnt (d := d + 9) L3
  replace x3 : run sh (d + 10) 115 [mR 0, mI (n : Int)] σ2 = some (some (mI 1), σ3) := x3
  replace x4 : run sh (d + 10) 162 [mR 0, mI 1] σ3 = some (some (mI (n : Int)), σ3) := x4
  replace x5 : run sh (d + 10) 162 [mR 0, mI 0] σ3 = some (some (mI 0), σ3) := x5
  obtain ⟨y, σ4, yl, qy, L4, -⟩ := nx L3 r9 (by omega) kρ lρ wρ
  have h20 := xrem_nn (a := y) (b := 20) (by omega) (by omega)
  replace h20 : xrem (y : Int) 20 = ((y % 20 : Nat) : Int) := h20
  have m20 := Nat.mod_lt y (show 20 > 0 by omega)
  have n20 : ¬ wi 20 = 0 := by decide
  have n3 : ¬ wi 3 = 0 := by decide
  have n4' : ¬ wi 4 = 0 := by decide
  have e4 : (4 : Int) + ((y % 20 : Nat) : Int) = ((4 + y % 20 : Nat) : Int) := by omega
  have xo := hI.1.1
  have q4w : wi (q : Int) = (q : Int) := wN (by omega)
  refine ⟨σ4, _, n, 4 + y % 20, ?_, L4, rfl, hs, n1, n4, by omega⟩
  have hp1 : pwk sh.1 [some (mR (1000001)), some (mR (0)), some (mR (ρ)), some (mI (1)), some (mI ((q : Nat) : Int)), v5, v6] ([.inr (.inr ρ)] ++ [.inl 1]) = true := by
    simp only [pwk, List.all_cons, List.all_nil, List.cons_append, List.nil_append, Bool.and_true, pok_I, pok_R (show 0 < sh.1 by omega), pok_R wρ, pok_O (show 1000000 ≤ 1000001 by omega), p5, p6]
  have hp2 : pwk sh.1 [some (mR (1000001)), some (mR (0)), some (mR (ρ)), some (mI (1)), some (mI ((q : Nat) : Int)), some (mI ((n : Nat) : Int)), v6] ([.inr (.inr ρ)] ++ [.inl 4, .inl (n : Int), .inr (.inr ρ), .inr (.inr 0)]) = true := by
    simp only [pwk, List.all_cons, List.all_nil, List.cons_append, List.nil_append, Bool.and_true, pok_I, pok_R (show 0 < sh.1 by omega), pok_R wρ, pok_O (show 1000000 ≤ 1000001 by omega), p6]
  rw [E1]
  simp (disch := first | assumption | omega | (simp (disch := omega) only [wN, w0, w1]; omega)) only [e288_103, e288_104, kl_I, kl_R, kl_N, kl_L, oSm, oNn, Option.bind_some, wN, if_pos, if_neg, nS, tN, t0, w0, w1, w2, w3, w4, w5, wm1, upA_ne, upA_same, if_true, if_false, Bool.false_eq_true]
  rw [e288_105 hp1, qx]
  by_cases e : q = 4
  · rw [if_pos e] at hn
    simp (disch := first | assumption | omega | (simp (disch := omega) only [wN, w0, w1]; omega)) only [e288_108, e288_110, e288_111, e288_114, e288_115, e288_118, e288_119, e288_120, e288_121, e288_123, e288_124, e288_127, e288_128, e288_130, e288_133, e288_136, e288_137, e288_138, e288_141, e288_143, e288_146, e288_147, e288_148, e288_151, e288_154, e288_155, e288_158, e288_159, e288_160, e288_161, e288_162, e288_164, e288_165, kl_I, kl_R, kl_N, kl_L, oSm, oNn, Option.bind_some, wN, if_pos, if_neg, nS, tN, t0, w0, w1, w2, w3, w4, w5, wm1, upA_ne, upA_same, if_true, if_false, Bool.false_eq_true, hn, x3, x4, x5]
    rw [e288_166 hp2, qy]
    simp (disch := first | assumption | omega | (simp (disch := omega) only [wN, w0, w1]; omega)) only [e288_169, e288_171, e288_172, e288_173, kl_I, kl_R, kl_N, kl_L, oSm, oNn, Option.bind_some, wN, if_pos, if_neg, nS, tN, t0, w0, w1, w2, w3, w4, w5, wm1, upA_ne, upA_same, if_true, if_false, Bool.false_eq_true, h20, e4]
  · rw [if_neg e] at hn
    simp (disch := first | assumption | omega | (simp (disch := omega) only [wN, w0, w1]; omega)) only [e288_108, e288_110, e288_111, e288_114, e288_115, e288_118, e288_119, e288_120, e288_121, e288_123, e288_124, e288_127, e288_128, e288_130, e288_133, e288_136, e288_137, e288_138, e288_141, e288_143, e288_146, e288_147, e288_148, e288_151, e288_154, e288_155, e288_158, e288_159, e288_160, e288_161, e288_162, e288_164, e288_165, kl_I, kl_R, kl_N, kl_L, oSm, oNn, Option.bind_some, wN, if_pos, if_neg, nS, tN, t0, w0, w1, w2, w3, w4, w5, wm1, upA_ne, upA_same, if_true, if_false, Bool.false_eq_true, hn, x3, x4, x5]
    rw [e288_166 hp2, qy]
    simp (disch := first | assumption | omega | (simp (disch := omega) only [wN, w0, w1]; omega)) only [e288_169, e288_171, e288_172, e288_173, kl_I, kl_R, kl_N, kl_L, oSm, oNn, Option.bind_some, wN, if_pos, if_neg, nS, tN, t0, w0, w1, w2, w3, w4, w5, wm1, upA_ne, upA_same, if_true, if_false, Bool.false_eq_true, h20, e4]
/-- one circuit -/
theorem B288t {L q : Nat} {sh : Shp} {kk : Nat} {σ : Mem} {a : AX} {v5 v6 : Option MV} (hI : LI (sh, σ, kk) a) (hs : a.2.2.2.1 = 0) (hq : q < 5) (r9 : 124 ≤ ρ) (wρ : ρ < sh.1) (kρ : skd sh ρ = 0) (lρ : sln sh ρ = 1) (ks : skd sh 1000001 = 0) (ls : sln sh 1000001 = L) (hL : L ≤ 260) (hN : sh.1 + 90 < 1000000) (p5 : pok sh.1 v5 = true) (p6 : pok sh.1 v6 = true) :
    ∃ sh2 σ2 kk2 a2 w5 w6, pv (d + 11) 288 76 [some (mR (1000001)), some (mR (0)), some (mR (ρ)), some (mI (1)), some (mI ((q : Nat) : Int)), v5, v6] [] (sh, σ, kk) = pv (d + 11) 288 76 [some (mR (1000001)), some (mR (0)), some (mR (ρ)), some (mI (1)), some (mI ((q + 1 : Nat) : Int)), w5, w6] [] (sh2, σ2, kk2) ∧ LI (sh2, σ2, kk2) a2 ∧ a2.2.2.2.1 = 0 ∧ Ex sh sh2 ∧ sh2.1 ≤ sh.1 + 90 ∧ kk2 ≤ kk + 52000 ∧ pok sh2.1 w5 = true ∧ pok sh2.1 w6 = true := by
  obtain ⟨σ1, a1, n, my, e1, L1, hn1, hs1, n1, n4, hmy⟩ := B288s (d := d) hI hs hq r9 wρ kρ lρ ks ls hL (by omega) p5 p6
  have hn9 := hI.n.1
  replace hn9 : 124 ≤ sh.1 := hn9
  -- the circuit
  obtain ⟨r2, S2, e2, rfl, ⟨a2, L2, hn2, hs2, hG⟩, x2, s2, k2, kA, lA, wA, -⟩ := B166 (d := d) (my := my) L1 hn1 hs1 n1 n4 hmy r9 wρ kρ lρ (by omega)
  obtain ⟨sh2, σ2, kk2⟩ := S2
  replace s2 : sh2.1 ≤ sh.1 + 40 := s2
  replace k2 : kk2 ≤ kk + 500 := k2
  replace x2 : Ex sh sh2 := x2
  replace hG : gR (σ2.1 sh.1) a2.1.2.1 := hG
  replace kA : skd sh2 sh.1 = 0 := kA
  replace lA : sln sh2 sh.1 = 121 := lA
  replace wA : sh.1 < sh2.1 := wA
  -- chances
  obtain ⟨r3, S3, e3, rfl, h3, k3, L3, f3⟩ := B169 (d := d + 3) (n := n) L2 hn2
  obtain ⟨sh3, σ3, kk3⟩ := S3
  replace h3 : sh3 = sh2 := h3
  replace k3 : kk3 = kk2 := k3
  subst h3; subst k3
  replace f3 : fr9 σ2 σ3 := f3
  -- ahead
  obtain ⟨r4, S4, e4, rfl, h4, L4, k4, f4⟩ := B170 (d := d + 3) (b := sh.1) (Z := (n : Int)) L3 rfl (by omega) (by omega) kA lA hn9 wA (by rw [(f3 sh.1 hn9).1]; exact hG) (by omega)
  obtain ⟨sh4, σ4, kk4⟩ := S4
  replace h4 : sh4 = pgS (pgS sh3 0 30) 0 30 := h4
  replace k4 : kk4 = kk3 + 30 + 30 := k4
  subst h4; subst k4
  have x4 : Ex sh3 (pgS (pgS sh3 0 30) 0 30) := (Ex.gr (by omega)).tr (Ex.gr (by show sh3.1 + 1 < _; omega))
  have s4 : (pgS (pgS sh3 0 30) 0 30).1 = sh3.1 + 2 := rfl
  have x24 := x2.tr x4
  have wρ4 : ρ < (pgS (pgS sh3 0 30) 0 30).1 := Nat.lt_of_lt_of_le wρ x24.1
  -- shorter
  obtain ⟨r5, S5, e5, rfl, ⟨a5, L5, q5⟩, x5, s5, k5, f5⟩ := B171 (d := d + 3) (n := n) L4 hn2 r9 wρ4 ((x24.k wρ).trans kρ) ((x24.l wρ).trans lρ) (by rw [s4]; omega)
  obtain ⟨sh5, σ5, kk5⟩ := S5
  replace x5 : Ex (pgS (pgS sh3 0 30) 0 30) sh5 := x5
  replace s5 : sh5.1 ≤ sh3.1 + 2 + 40 := s5
  replace k5 : kk5 ≤ kk3 + 30 + 30 + 51200 := k5
  have x25 := x24.tr x5
  replace e2 : prun (d + 10) 166 [mR 0, mR ρ, mI (n : Int), mI (my : Int), mI 6] (sh, σ1, kk) = some (some (mR sh.1), (sh3, σ2, kk3)) := e2
  replace e3 : prun (d + 10) 169 [mR 0, mI (n : Int)] (sh3, σ2, kk3) = some (some (mI 1), (sh3, σ3, kk3)) := e3
  replace e4 : prun (d + 10) 170 [mR 0, mR sh.1, mI (n : Int)] (sh3, σ3, kk3) = some (some (mI 1), (pgS (pgS sh3 0 30) 0 30, σ4, kk3 + 30 + 30)) := e4
  replace e5 : prun (d + 10) 171 [mR 0, mR ρ, mI (n : Int)] (pgS (pgS sh3 0 30) 0 30, σ4, kk3 + 30 + 30) = some (some (mI 1), (sh5, σ5, kk5)) := e5
  have w121 : wi 121 = 121 := rfl
  have wA4 : sh.1 < (pgS (pgS sh3 0 30) 0 30).1 := Nat.lt_of_lt_of_le wA x4.1
  refine ⟨sh5, σ5, kk5, a5, some (mI (n : Int)), some (mR sh.1), ?_, L5, by rw [q5]; exact hs2, x25, by omega, by omega, rfl, pok_R (Nat.lt_of_lt_of_le wA4 x5.1)⟩
  have hp1 : pwk sh.1 [some (mR (1000001)), some (mR (0)), some (mR (ρ)), some (mI (1)), some (mI ((q : Nat) : Int)), some (mI ((n : Nat) : Int)), v6] ([.inr (.inr 0), .inr (.inr ρ), .inl (n : Int), .inl (my : Int), .inl 6] ++ []) = true := by
    simp only [pwk, List.all_cons, List.all_nil, List.cons_append, List.nil_append, Bool.and_true, pok_I, pok_R (show 0 < sh.1 by omega), pok_R wρ, pok_O (show 1000000 ≤ 1000001 by omega), p6]
  have w3ρ : ρ < sh3.1 := Nat.lt_of_lt_of_le wρ x2.1
  have hp2 : pwk sh3.1 [some (mR (1000001)), some (mR (0)), some (mR (ρ)), some (mI (1)), some (mI ((q : Nat) : Int)), some (mI ((n : Nat) : Int)), some (mR (sh.1))] ([.inr (.inr 0), .inl (n : Int)] ++ []) = true := by
    simp only [pwk, List.all_cons, List.all_nil, List.cons_append, List.nil_append, Bool.and_true, pok_I, pok_R (show 0 < sh3.1 by omega), pok_R w3ρ, pok_O (show 1000000 ≤ 1000001 by omega), pok_R wA]
  have hp3 : pwk sh3.1 [some (mR (1000001)), some (mR (0)), some (mR (ρ)), some (mI (1)), some (mI ((q : Nat) : Int)), some (mI ((n : Nat) : Int)), some (mR (sh.1))] ([.inr (.inr 0), .inr (.inr sh.1), .inl (n : Int)] ++ []) = true := by
    simp only [pwk, List.all_cons, List.all_nil, List.cons_append, List.nil_append, Bool.and_true, pok_I, pok_R (show 0 < sh3.1 by omega), pok_R w3ρ, pok_O (show 1000000 ≤ 1000001 by omega), pok_R wA]
  have hp4 : pwk (pgS (pgS sh3 0 30) 0 30).1 [some (mR (1000001)), some (mR (0)), some (mR (ρ)), some (mI (1)), some (mI ((q : Nat) : Int)), some (mI ((n : Nat) : Int)), some (mR (sh.1))] ([.inr (.inr 0), .inr (.inr ρ), .inl (n : Int)] ++ []) = true := by
    simp only [pwk, List.all_cons, List.all_nil, List.cons_append, List.nil_append, Bool.and_true, pok_I, pok_R (show 0 < (pgS (pgS sh3 0 30) 0 30).1 by rw [s4]; omega), pok_R wρ4, pok_O (show 1000000 ≤ 1000001 by omega), pok_R wA4]
  rw [e1, e288_175 hp1, e2]
  simp (disch := first | assumption | omega | (simp (disch := omega) only [wN, w0, w1]; omega)) only [e288_178, e288_180, e288_181, e288_184, e288_186, e288_187, e288_189, e288_192, e288_193, kl_I, kl_R, kl_N, kl_L, oSm, oNn, Option.bind_some, wN, if_pos, if_neg, nS, tN, t0, w0, w1, w2, w3, w4, w5, wm1, upA_ne, upA_same, if_true, if_false, Bool.false_eq_true, lA, w121]
  rw [e288_195 hp2, e3]
  simp (disch := first | assumption | omega | (simp (disch := omega) only [wN, w0, w1]; omega)) only [e288_198, e288_201, e288_202, e288_204, kl_I, kl_R, kl_N, kl_L, oSm, oNn, Option.bind_some, wN, if_pos, if_neg, nS, tN, t0, w0, w1, w2, w3, w4, w5, wm1, upA_ne, upA_same, if_true, if_false, Bool.false_eq_true]
  rw [e288_206 hp3, e4]
  simp (disch := first | assumption | omega | (simp (disch := omega) only [wN, w0, w1]; omega)) only [e288_209, e288_212, e288_213, e288_214, kl_I, kl_R, kl_N, kl_L, oSm, oNn, Option.bind_some, wN, if_pos, if_neg, nS, tN, t0, w0, w1, w2, w3, w4, w5, wm1, upA_ne, upA_same, if_true, if_false, Bool.false_eq_true]
  rw [e288_216 hp4, e5]
  simp (disch := first | assumption | omega | (simp (disch := omega) only [wN, w0, w1]; omega)) only [e288_219, e288_222, e288_223, e288_226, e288_227, e288_228, e288_231, kl_I, kl_R, kl_N, kl_L, oSm, oNn, Option.bind_some, wN, if_pos, if_neg, nS, tN, t0, w0, w1, w2, w3, w4, w5, wm1, upA_ne, upA_same, if_true, if_false, Bool.false_eq_true]
/-- what is left of the circuits -/
theorem B288l {L : Nat} (r9 : 124 ≤ ρ) (hL : L ≤ 260) : ∀ (l q : Nat) (sh : Shp) (kk : Nat) (σ : Mem) (a : AX) (v5 v6 : Option MV), q + l = 5 → LI (sh, σ, kk) a → a.2.2.2.1 = 0 → ρ < sh.1 → skd sh ρ = 0 → sln sh ρ = 1 → skd sh 1000001 = 0 → sln sh 1000001 = L → sh.1 + 90 * l < 1000000 → pok sh.1 v5 = true → pok sh.1 v6 = true →
    ∃ sh2 σ2 kk2 a2 w5 w6, pv (d + 11) 288 76 [some (mR (1000001)), some (mR (0)), some (mR (ρ)), some (mI (1)), some (mI ((q : Nat) : Int)), v5, v6] [] (sh, σ, kk) = pv (d + 11) 288 234 [some (mR (1000001)), some (mR (0)), some (mR (ρ)), some (mI (1)), some (mI (5)), w5, w6] [] (sh2, σ2, kk2) ∧ LI (sh2, σ2, kk2) a2 ∧ sh2.1 ≤ sh.1 + 90 * l ∧ kk2 ≤ kk + 52000 * l := by
  intro l
  induction l with
  | zero =>
    intro q sh kk σ a v5 v6 hq hI hs wρ kρ lρ ks ls hN p5 p6
    have e : q = 5 := by omega
    subst e
    refine ⟨sh, σ, kk, a, v5, v6, ?_, hI, by omega, by omega⟩
    rw [e288_76]
    simp (disch := first | assumption | omega | (simp (disch := omega) only [wN, w0, w1]; omega)) only [e288_78, e288_79, kl_I, kl_R, kl_N, kl_L, oSm, oNn, Option.bind_some, wN, if_pos, if_neg, nS, tN, t0, w0, w1, w2, w3, w4, w5, wm1, upA_ne, upA_same, if_true, if_false, Bool.false_eq_true]
    all_goals rfl
  | succ l ih =>
    intro q sh kk σ a v5 v6 hq hI hs wρ kρ lρ ks ls hN p5 p6
    obtain ⟨sh2, σ2, kk2, a2, w5, w6, e2, L2, hs2, x2, s2, k2, q5, q6⟩ := B288t (d := d) (q := q) hI hs (by omega) r9 wρ kρ lρ ks ls hL (by omega) p5 p6
    have kx : skd sh2 1000001 = 0 := by unfold skd at ks ⊢; rw [x2.2.2 1000001 (Or.inr (by omega))]; exact ks
    have lx : sln sh2 1000001 = L := by unfold sln at ls ⊢; rw [x2.2.2 1000001 (Or.inr (by omega))]; exact ls
    obtain ⟨sh3, σ3, kk3, a3, z5, z6, e3, L3, s3, k3⟩ := ih (q + 1) sh2 kk2 σ2 a2 w5 w6 (by omega) L2 hs2 (Nat.lt_of_lt_of_le wρ x2.1) ((x2.k wρ).trans kρ) ((x2.l wρ).trans lρ) kx lx (by omega) q5 q6
    exact ⟨sh3, σ3, kk3, a3, z5, z6, e2.trans e3, L3, by omega, by omega⟩
end PG8

