/-! ===== the law: what is refused; the whole ===== -/
section PG9
variable {d ρ : Nat}
theorem B288e {sh : Shp} {kk : Nat} {σ : Mem} {a : AX} {v5 v6 : Option MV} (hI : LI (sh, σ, kk) a) : ∃ σ', pv (d + 11) 288 234 [some (mR (1000001)), some (mR (0)), some (mR (ρ)), some (mI (1)), some (mI (5)), v5, v6] [] (sh, σ, kk) = some (some (mI 1), (sh, σ', kk)) := by
  obtain ⟨hv, n4, n1, c30⟩ := hI.ok
  replace n4 : a.1.1 ≤ 4 := n4
  replace c30 : a.1.2.1.length ≤ 30 := c30
  have xo := hI.1.1
  have p16 : 2 ^ a.1.1 ≤ 2 ^ 4 := Nat.pow_le_pow_right (by omega) n4
  have b0 : aLines a 0 = (0, a) := if_pos (by omega)
  have b5 : aLines a 5 = (0, a) := if_pos (by omega)
  have c1 : aAmp a 16 0 0 = -1000000000000000000 := if_pos (by omega)
  have c2 : aAmp a 0 0 5 = -1000000000000000000 := if_pos (by omega)
  have c3 : aCha a 0 (-1) 0 = -1000000000000000000 := if_pos (by omega)
  have c4 : aCha a 0 0 3 = -1000000000000000000 := if_pos (by omega)
  have c5 : aSpr a (-1) = -1 := if_pos (by omega)
  have c6 : aAhead a 30 0 = -1 := if_pos (by omega)
  have c7 : aAhead a (-1) 0 = -1 := if_pos (by omega)
  have c8 : aGateIs a 0 6 = -1 := if_pos (by omega)
  have c9 : aSame a 3 = -1 := if_pos (by omega)
  have ca : aCircIs a 7 = -1 := by
    unfold aCircIs aHas
    rw [if_neg (by omega), if_neg (by omega), if_neg (by omega), if_neg (by omega)]
  have i := fun (z : Int) (h : -10 ≤ z ∧ z ≤ 100) => (show i32 z by unfold i32; omega)
  obtain ⟨σ1, x1, L1, -⟩ := cLin (d := d + 8) (z := 0) hI (i _ (by omega))
  rw [b0] at x1 L1
  obtain ⟨σ2, x2, L2, -⟩ := cLin (d := d + 8) (z := 5) L1 (i _ (by omega))
  rw [b5] at x2 L2
  obtain ⟨σ3, x3, L3, -⟩ := cAmp (d := d + 6) (z := 16) (w := 0) (v := 0) L2 (i _ (by omega)) (i _ (by omega)) (i _ (by omega))
  obtain ⟨σ4, x4, L4, -⟩ := cAmp (d := d + 6) (z := 0) (w := 0) (v := 5) L3 (i _ (by omega)) (i _ (by omega)) (i _ (by omega))
  obtain ⟨σ5, x5, L5, -⟩ := cCha (d := d + 6) (z := 0) (w := -1) (v := 0) L4 (i _ (by omega)) (i _ (by omega)) (i _ (by omega))
  obtain ⟨σ6, x6, L6, -⟩ := cCha (d := d + 6) (z := 0) (w := 0) (v := 3) L5 (i _ (by omega)) (i _ (by omega)) (i _ (by omega))
  obtain ⟨σ7, x7, L7, -⟩ := cSpr (d := d + 6) (z := -1) L6 (i _ (by omega))
  obtain ⟨σ8, x8, L8, -⟩ := cAhd (d := d + 5) (z := 30) (w := 0) L7 (i _ (by omega)) (i _ (by omega))
  obtain ⟨σ9, x9, L9, -⟩ := cAhd (d := d + 5) (z := -1) (w := 0) L8 (i _ (by omega)) (i _ (by omega))
  obtain ⟨τ1, y1, M1, -⟩ := cGis (d := d + 4) (z := 0) (w := 6) L9 (i _ (by omega)) (i _ (by omega))
  obtain ⟨τ2, y2, M2, -⟩ := cSame (d := d + 4) (w := 3) M1 (i _ (by omega)) c9
  obtain ⟨τ3, y3, M3, -⟩ := cIs (d := d + 4) (z := 7) M2 (i _ (by omega))
  rw [c1] at x3
  rw [c2] at x4
  rw [c3] at x5
  rw [c4] at x6
  rw [c5] at x7
  rw [c6] at x8
  rw [c7] at x9
  rw [c8] at y1
  rw [ca] at y3
  replace x1 : run sh (d + 10) 115 [mR 0, mI 0] σ = some (some (mI 0), σ1) := x1
  replace x2 : run sh (d + 10) 115 [mR 0, mI 5] σ1 = some (some (mI 0), σ2) := x2
  replace x3 : run sh (d + 10) 132 [mR 0, mI 16, mI 0, mI 0] σ2 = some (some (mL (-1000000000000000000)), σ3) := x3
  replace x4 : run sh (d + 10) 132 [mR 0, mI 0, mI 0, mI 5] σ3 = some (some (mL (-1000000000000000000)), σ4) := x4
  replace x5 : run sh (d + 10) 133 [mR 0, mI 0, mI (-1), mI 0] σ4 = some (some (mL (-1000000000000000000)), σ5) := x5
  replace x6 : run sh (d + 10) 133 [mR 0, mI 0, mI 0, mI 3] σ5 = some (some (mL (-1000000000000000000)), σ6) := x6
  replace x7 : run sh (d + 10) 134 [mR 0, mI (-1)] σ6 = some (some (mI (-1)), σ7) := x7
  replace x8 : run sh (d + 10) 126 [mR 0, mI 30, mI 0] σ7 = some (some (mI (-1)), σ8) := x8
  replace x9 : run sh (d + 10) 126 [mR 0, mI (-1), mI 0] σ8 = some (some (mI (-1)), σ9) := x9
  replace y1 : run sh (d + 10) 125 [mR 0, mI 0, mI 6] σ9 = some (some (mI (-1)), τ1) := y1
  replace y2 : run sh (d + 10) 135 [mR 0, mI 3] τ1 = some (some (mI (-1)), τ2) := y2
  replace y3 : run sh (d + 10) 127 [mR 0, mI 7] τ2 = some (some (mI (-1)), τ3) := y3
  refine ⟨τ3, ?_⟩
  rw [e288_234]
  simp (disch := first | assumption | omega | (simp (disch := omega) only [wN, w0, w1]; omega)) only [e288_235, e288_238, e288_239, e288_240, e288_243, e288_246, e288_247, e288_248, e288_251, e288_254, e288_255, e288_257, e288_258, e288_259, e288_262, e288_265, e288_266, e288_269, e288_270, e288_271, e288_272, e288_273, e288_276, e288_279, e288_280, e288_283, e288_284, e288_285, e288_286, e288_287, e288_290, e288_293, e288_294, e288_297, e288_298, e288_299, e288_300, e288_301, e288_304, e288_307, e288_308, e288_311, e288_312, e288_313, e288_316, e288_317, e288_320, e288_321, e288_323, e288_324, e288_327, e288_328, e288_331, e288_332, e288_333, e288_334, e288_337, e288_338, e288_341, e288_342, e288_343, e288_345, e288_348, e288_349, e288_352, e288_353, e288_354, e288_357, e288_358, e288_361, e288_362, e288_364, e288_367, e288_368, e288_371, e288_372, e288_375, e288_376, kl_I, kl_R, kl_N, kl_L, oSm, oNn, Option.bind_some, wN, if_pos, if_neg, nS, tN, t0, w0, w1, w2, w3, w4, w5, wm1, upA_ne, upA_same, if_true, if_false, Bool.false_eq_true, x1, x2, x3, x4, x5, x6, x7, x8, x9, y1, y2, y3, lcmp_s]
/-- the law, from its object on: it comes to its end with true -/
theorem law_p {L : Nat} {sh : Shp} {kk : Nat} {σ : Mem} {a : AX} (hI : LI (sh, σ, kk) a) (hn : a.1.1 = 2) (hc : a.1.2.1 = []) (hK : a.2.1 = none) (hs : a.2.2.2.1 = 0) (ks : skd sh 1000001 = 0) (ls : sln sh 1000001 = L) (hL : L ≤ 260) (hN : sh.1 + 500 < 1000000) :
    ∃ S' : PS, pv (d + 11) 288 8 [some (mR (1000001)), some (mR (0)), none, none, none, none, none] [] (sh, σ, kk) = some (some (mI 1), S') ∧ S'.1.1 ≤ sh.1 + 500 ∧ S'.2.2 ≤ kk + 300000 := by
  obtain ⟨σ1, a1, e1, L1, s1⟩ := B288a (d := d) hI hn hc hK hs ks ls hL (by omega)
  have hn9 := hI.n.1
  replace hn9 : 124 ≤ sh.1 := hn9
  have sC : (pgS sh 0 1).1 = sh.1 + 1 := rfl
  obtain ⟨sh2, σ2, kk2, a2, w5, w6, e2, L2, s2, k2⟩ := B288l (d := d) (ρ := sh.1) hn9 hL 5 0 (pgS sh 0 1) (kk + 1) σ1 a1 none none (by omega) L1 s1 pgS_w pgS_k pgS_l ((pgS_kn (by omega)).trans ks) ((pgS_ln (by omega)).trans ls) (by rw [sC]; omega) rfl rfl
  obtain ⟨σ3, e3⟩ := B288e (d := d) (ρ := sh.1) (v5 := w5) (v6 := w6) L2
  refine ⟨(sh2, σ3, kk2), ?_, by show sh2.1 ≤ _; omega, by show kk2 ≤ _; omega⟩
  rw [e1]
  refine Eq.trans ?_ (e2.trans e3)
  rfl
end PG9

