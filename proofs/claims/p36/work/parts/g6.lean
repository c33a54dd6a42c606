/-! ===== the law: a circuit, whole ===== -/
section PG6
variable {d ρ n my : Nat}
theorem cCirc {sh : Shp} {kk : Nat} {σ : Mem} {a : AX} {z : Int} (hI : LI (sh, σ, kk) a) (hz : i32 z) : ∃ σ', run sh (d + 9) 116 [mR 0, mI z] σ = some (some (mI (aCirc a z).1), σ') ∧ LI (sh, σ', kk) (aCirc a z).2 ∧ fr9 σ σ' :=
  cX (as := [mR 0, mI z]) hI (okA_of (zs := [z])) (X116 hI.1 hI.2.1 hz)
theorem B166c {A T : Nat} {sh : Shp} {kk : Nat} {σ : Mem} {a : AX} {c : List Gt} {Lr : Nat} {w10 w11 : Option MV} (hI : LI (sh, σ, kk) a) (hn : a.1.1 = n) (hs : a.2.2.2.1 = 0) (n4 : n ≤ 4) (r9 : 124 ≤ ρ) (hρA : ρ < A) (hAT : A < T) (hTL : T < Lr) (wL : Lr < sh.1) (kA : skd sh A = 0) (lA : sln sh A = 121) (kT : skd sh T = 0) (lT : sln sh T = 160) (hv : okC n c) (hc : c.length ≤ 23) (ht : (TT c).length ≤ 120) (hX : tXR (σ.1 T) c) (hG : gRp (σ.1 A) c) (p10 : pok sh.1 w10 = true) (p11 : pok sh.1 w11 = true) (hN : sh.1 + 8 < 1000000) :
    PE (pv (d + 10) 166 1646 [some (mR (0)), some (mR (ρ)), some (mI ((n : Nat) : Int)), some (mI ((my : Nat) : Int)), some (mI (6)), some (mR (A)), some (mR (T)), some (mR (Lr)), some (mI (((TT c).length : Nat) : Int)), some (mI ((c.length : Nat) : Int)), w10, w11] [] (sh, σ, kk)) (fun r S' => r = some (mR A) ∧ (∃ a', LI S' a' ∧ a'.1.1 = n ∧ a'.1.2.1 = c ∧ a'.2.2.2.1 = 0) ∧ Ex sh S'.1 ∧ S'.1.1 ≤ sh.1 + 7 ∧ S'.2.2 ≤ kk + 30 ∧ gR (S'.2.1.1 A) c ∧ ∀ b, 124 ≤ b → b < A → S'.2.1.1 b = σ.1 b ∧ S'.2.1.2 b = σ.2 b) := by
  have hn9 := hI.n.1
  replace hn9 : 124 ≤ sh.1 := hn9
  have w120 : wi 120 = 120 := rfl
  have z120 : (120 : Int).toNat = 120 := rfl
  have L1 : LI (sh, (upA σ.1 A (up1 (σ.1 A) 120 (c.length : Int)), σ.2), kk) a := hI.up1 (by omega) (by omega)
  have hb := TT_b n4 c hv
  obtain ⟨r, S2, e2, rfl, ⟨B, s, L2, hns, hB⟩, x2, s2, k2, f2⟩ := B163 (d := d + 6) (n := (TT c).length) (t := T) (M := 160) (L := fun j => (TT c).getD j 0) L1 (by omega) (by omega) kT lT (by omega) (by omega) ht (fun j hj => ⟨by
    show upA _ _ _ T j = _
    rw [upA_ne (by omega)]; exact hX j hj, getD_b hb j⟩) hs (by omega)
  obtain ⟨sh2, σ2, kk2⟩ := S2
  replace s2 : sh2.1 ≤ sh.1 + 6 := s2
  replace k2 : kk2 ≤ kk + 30 := k2
  replace x2 : Ex sh sh2 := x2
  have s140 : s ≤ 140 := L2.2.1.2.2.2.2.1
  have hR : rdC B (TT c).length n = (0, c) := rdC_t n4 hv (by omega) (fun j hj => by rw [Nat.zero_add]; exact hB j hj)
  have eC : aCirc (a.1, a.2.1, B, s, a.2.2.2.2) ((TT c).length : Int) = ((c.length : Int), ((n, c, a.1.2.2), a.2.1, B, 0, a.2.2.2.2)) := by
    unfold aCirc
    rw [if_neg (by simp only; omega), Int.toNat_natCast]
    show (if (rdC B (TT c).length a.1.1).1 < 0 then _ else _) = _
    rw [hn, hR, if_neg (by omega)]
  obtain ⟨σ3, x3, L3, f3⟩ := cCirc (d := d) (z := ((TT c).length : Int)) L2 (i32N (by omega))
  rw [eC] at x3 L3
  replace x3 : run sh2 (d + 9) 116 [mR 0, mI ((TT c).length : Int)] σ2 = some (some (mI (c.length : Int)), σ3) := x3
  have x4 := cCnt (d := d + 8) L3
  replace x4 : run sh2 (d + 9) 162 [mR 0, mI 0] σ3 = some (some (mI (c.length : Int)), σ3) := x4
  have xo2 := L2.1.1
  have h09 : 0 ≤ wi 0 := by decide
  have u09 : wi 0 ≤ 4096 := by decide
  have z09 : (wi 0).toNat = 0 := rfl
  have wc : wi (c.length : Int) = (c.length : Int) := wN (by omega)
  have L4 : LI (pgS sh2 0 0, pgI sh2 σ3, kk2 + 0) ((n, c, a.1.2.2), a.2.1, B, 0, a.2.2.2.2) := (L3.new (by omega)).1
  have wA2 : A < sh2.1 := Nat.lt_of_lt_of_le (by omega) x2.1
  have hpw : pwk sh2.1 [some (mR (0)), some (mR (ρ)), some (mI ((n : Nat) : Int)), some (mI ((my : Nat) : Int)), some (mI (6)), some (mR (A)), some (mR (T)), some (mR (Lr)), some (mI (((TT c).length : Nat) : Int)), some (mI ((c.length : Nat) : Int)), some (mI (1)), w11] [] = true := by
    have h1 := x2.1
    have p11' : pok sh2.1 w11 = true := by
      revert p11
      cases w11 with
      | none => intro _; rfl
      | some v =>
        rcases v with z | z | y
        · intro _; rfl
        · intro _; rfl
        · intro h; simp [pok] at h ⊢; omega
    simp only [pwk, List.all_cons, List.all_nil, Bool.and_true, pok_I, pok_R (show 0 < sh2.1 by omega), pok_R (show ρ < sh2.1 by omega), pok_R wA2, pok_R (show T < sh2.1 by omega), pok_R (show Lr < sh2.1 by omega), p11']
  have hpw1 : pwk sh.1 [some (mR (0)), some (mR (ρ)), some (mI ((n : Nat) : Int)), some (mI ((my : Nat) : Int)), some (mI (6)), some (mR (A)), some (mR (T)), some (mR (Lr)), some (mI (((TT c).length : Nat) : Int)), some (mI ((c.length : Nat) : Int)), w10, w11] ([.inr (.inr 0), .inr (.inr T), .inl ((TT c).length : Int)] ++ []) = true := by
    simp only [pwk, List.all_cons, List.all_nil, List.cons_append, List.nil_append, List.append_nil, Bool.and_true, pok_I, pok_R (show 0 < sh.1 by omega), pok_R (show ρ < sh.1 by omega), pok_R (show A < sh.1 by omega), pok_R (show T < sh.1 by omega), pok_R wL, p10, p11]
  rw [e166_1646]
  simp (disch := first | assumption | omega | (simp (disch := omega) only [wN, w0, w1]; omega)) only [e166_1648, e166_1650, e166_1652, e166_1653, e166_1654, e166_1656, kl_I, kl_R, kl_N, kl_L, oSm, oNn, Option.bind_some, wN, if_pos, if_neg, nS, tN, t0, w0, w1, w2, w3, w4, w5, wm1, upA_ne, upA_same, if_true, if_false, Bool.false_eq_true, lA, w120, z120]
  rw [e166_1658 hpw1, e2]
  simp (disch := first | assumption | omega | (simp (disch := omega) only [wN, w0, w1]; omega)) only [e166_1661, e166_1662, e166_1664, e166_1667, e166_1669, e166_1672, e166_1673, e166_1674, e166_1677, e166_1679, e166_1682, e166_1683, e166_1686, e166_1687, e166_1689, kl_I, kl_R, kl_N, kl_L, oSm, oNn, Option.bind_some, wN, if_pos, if_neg, nS, tN, t0, w0, w1, w2, w3, w4, w5, wm1, upA_ne, upA_same, if_true, if_false, Bool.false_eq_true, x3, x4, wc]
  rw [e166_1690 h09 u09 (by omega) hpw, z09]
  simp (disch := first | assumption | omega | (simp (disch := omega) only [wN, w0, w1]; omega)) only [e166_1692, e166_1694, e166_1696, e166_1699, e166_1701, e166_1704, e166_1706, kl_I, kl_R, kl_N, kl_L, oSm, oNn, Option.bind_some, wN, if_pos, if_neg, nS, tN, t0, w0, w1, w2, w3, w4, w5, wm1, upA_ne, upA_same, if_true, if_false, Bool.false_eq_true]
  rw [e166_1706 (by show A < sh2.1 + 1; omega)]
  refine PE.of rfl ⟨rfl, ⟨_, L4, rfl, rfl, rfl⟩, x2.tr (Ex.gr (by omega)), by show sh2.1 + 1 ≤ _; omega, by show kk2 + 0 ≤ _; omega, ?_, fun b h1 h2 => ?_⟩
  · have eA : (pgI sh2 σ3).1 A = up1 (σ.1 A) 120 (c.length : Int) := by
      show upA _ _ _ A = _
      rw [upA_ne (by omega), (f3 A (by omega)).1, (f2 A (by omega) (by omega)).1]
      show upA _ _ _ A = _
      rw [upA_same]
    show gR ((pgI sh2 σ3).1 A) c
    rw [eA]
    refine ⟨up1_same _ _ _, fun j hj => ?_⟩
    rw [up1_ne (by omega), up1_ne (by omega), up1_ne (by omega), up1_ne (by omega)]
    exact hG j hj
  · have g2 := f2 b h1 (by omega)
    have g3 := f3 b h1
    refine ⟨?_, g3.2.trans g2.2⟩
    show upA _ _ _ b = _
    rw [upA_ne (by omega), g3.1, g2.1]
    show upA _ _ _ b = _
    rw [upA_ne (by omega)]
theorem B166 {sh : Shp} {kk : Nat} {σ : Mem} {a : AX} (hI : LI (sh, σ, kk) a) (hn : a.1.1 = n) (hs : a.2.2.2.1 = 0) (n1 : 1 ≤ n) (n4 : n ≤ 4) (hmy : my ≤ 23) (r9 : 124 ≤ ρ) (rs : ρ < sh.1) (kρ : skd sh ρ = 0) (lρ : sln sh ρ = 1) (hN : sh.1 + 40 < 1000000) :
    PE (prun (d + 10) 166 [mR 0, mR ρ, mI (n : Int), mI (my : Int), mI 6] (sh, σ, kk)) (fun r S' => r = some (mR sh.1) ∧ (∃ a', LI S' a' ∧ a'.1.1 = n ∧ a'.2.2.2.1 = 0 ∧ gR (S'.2.1.1 sh.1) a'.1.2.1) ∧ Ex sh S'.1 ∧ S'.1.1 ≤ sh.1 + 40 ∧ S'.2.2 ≤ kk + 500 ∧ skd S'.1 sh.1 = 0 ∧ sln S'.1 sh.1 = 121 ∧ sh.1 < S'.1.1 ∧ ∀ b, 124 ≤ b → b < sh.1 → b ≠ ρ → S'.2.1.1 b = σ.1 b ∧ S'.2.1.2 b = σ.2 b) := by
  have hn9 := hI.n.1
  replace hn9 : 124 ≤ sh.1 := hn9
  obtain ⟨σ1, e1, L1, l1, f1⟩ := B166a (d := d) (n := n) (my := my) (ρ := ρ) hI r9 rs (by omega)
  have xC : Ex sh (shC sh) := (Ex.gr (by omega)).tr ((Ex.gr (by show sh.1 + 1 < _; omega)).tr (Ex.gr (by show sh.1 + 1 + 1 < _; omega)))
  have sC : (shC sh).1 = sh.1 + 3 := rfl
  have kA : skd (shC sh) sh.1 = 0 := by
    show skd (pgS (pgS (pgS sh 0 121) 0 160) 0 6) sh.1 = 0
    rw [pgS_kn (by show sh.1 ≠ sh.1 + 1 + 1; omega), pgS_kn (by show sh.1 ≠ sh.1 + 1; omega)]; exact pgS_k
  have lA : sln (shC sh) sh.1 = 121 := by
    show sln (pgS (pgS (pgS sh 0 121) 0 160) 0 6) sh.1 = 121
    rw [pgS_ln (by show sh.1 ≠ sh.1 + 1 + 1; omega), pgS_ln (by show sh.1 ≠ sh.1 + 1; omega)]; exact pgS_l
  have kT : skd (shC sh) (sh.1 + 1) = 0 := by
    show skd (pgS (pgS (pgS sh 0 121) 0 160) 0 6) (sh.1 + 1) = 0
    rw [pgS_kn (by show sh.1 + 1 ≠ sh.1 + 1 + 1; omega)]; exact pgS_k (sh := pgS sh 0 121)
  have lT : sln (shC sh) (sh.1 + 1) = 160 := by
    show sln (pgS (pgS (pgS sh 0 121) 0 160) 0 6) (sh.1 + 1) = 160
    rw [pgS_ln (by show sh.1 + 1 ≠ sh.1 + 1 + 1; omega)]; exact pgS_l (sh := pgS sh 0 121)
  have kL : skd (shC sh) (sh.1 + 2) = 0 := pgS_k (sh := pgS (pgS sh 0 121) 0 160)
  have lL : sln (shC sh) (sh.1 + 2) = 6 := pgS_l (sh := pgS (pgS sh 0 121) 0 160)
  obtain ⟨c, sh2, σ2, kk2, w10, w11, e2, L2, x2, s2, k2, hv, hc, ht, hX, hG, p10, p11, f2⟩ := B166b (d := d) (ρ := ρ) (n := n) (my := my) (A := sh.1) (T := sh.1 + 1) (Lr := sh.1 + 2) n1 n4 hmy r9 rs (by omega) (by omega) my [] (shC sh) σ1 (kk + 121 + 160 + 6) none none (by simp) (Nat.zero_le _) L1 (by rw [sC]; omega) ((xC.k rs).trans kρ) ((xC.l rs).trans lρ) kA lA kT lT kL lL l1 (fun q hq => by simp at hq) (Nat.zero_le _) (fun j hj => absurd hj (Nat.not_lt_zero _)) (fun j hj => absurd hj (Nat.not_lt_zero _)) (by rw [sC]; omega) rfl rfl
  have wA : sh.1 < (shC sh).1 := by rw [sC]; omega
  have wT : sh.1 + 1 < (shC sh).1 := by rw [sC]; omega
  have wL : sh.1 + 2 < (shC sh).1 := by rw [sC]; omega
  have B := B166c (d := d) (ρ := ρ) (n := n) (my := my) (A := sh.1) (T := sh.1 + 1) (Lr := sh.1 + 2) L2 hn hs n4 r9 rs (by omega) (by omega) (Nat.lt_of_lt_of_le wL x2.1) ((x2.k wA).trans kA) ((x2.l wA).trans lA) ((x2.k wT).trans kT) ((x2.l wT).trans lT) hv (by omega) ht hX hG p10 p11 (by omega)
  have x12 := xC.tr x2
  rw [e1]
  refine PE.imp (show PE _ _ by rw [show pv (d + 10) 166 1480 [some (mR (0)), some (mR (ρ)), some (mI ((n : Nat) : Int)), some (mI ((my : Nat) : Int)), some (mI (6)), some (mR (sh.1)), some (mR ((sh.1 + 1))), some (mR ((sh.1 + 2))), some (mI ((0 : Nat) : Int)), some (mI ((0 : Nat) : Int)), none, none] [] (shC sh, σ1, kk + 121 + 160 + 6) = _ from e2]; exact B) ?_
  intro r S' h
  obtain ⟨h1, ⟨a', h2, h3, h4, h5⟩, h6, h7, h8, h9, h10⟩ := h
  have wA2 : sh.1 < sh2.1 := Nat.lt_of_lt_of_le wA x2.1
  refine ⟨h1, ⟨a', h2, h3, h5, by rw [h4]; exact h9⟩, x12.tr h6, by omega, by omega, ?_, ?_, Nat.lt_of_lt_of_le wA2 h6.1, fun b b1 b2 b3 => ?_⟩
  · exact (h6.k wA2).trans ((x2.k wA).trans kA)
  · exact (h6.l wA2).trans ((x2.l wA).trans lA)
  · have g1 := f1 b b1 b2
    have g2 := f2 b b1 (by rw [sC]; omega) b3 (by omega) (by omega)
    have g3 := h10 b b1 b2
    exact ⟨(g3.1.trans g2.1).trans g1.1, (g3.2.trans g2.2).trans g1.2⟩
end PG6

