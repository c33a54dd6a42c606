/-! ===== the law: its start ===== -/
theorem pok_O {N a : Nat} (h : 1000000 ≤ a) : pok N (some (mR a)) = true := by simp [pok, h]
section PG7
variable {d : Nat}
theorem cLin {sh : Shp} {kk : Nat} {σ : Mem} {a : AX} {z : Int} (hI : LI (sh, σ, kk) a) (hz : i32 z) : ∃ σ', run sh (d + 2) 115 [mR 0, mI z] σ = some (some (mI (aLines a z).1), σ') ∧ LI (sh, σ', kk) (aLines a z).2 ∧ fr9 σ σ' :=
  cX (as := [mR 0, mI z]) hI (okA_of (zs := [z])) (X115 hI.1 hI.2.1 hz)
theorem cCn1 {sh : Shp} {kk : Nat} {σ : Mem} {a : AX} (hI : LI (sh, σ, kk) a) : run sh (d + 1) 162 [mR 0, mI 1] σ = some (some (mI (a.1.1 : Int)), σ) := by
  have h := X162 (d := d) (w := 1) hI.1 hI.2.1 (by unfold i32; omega)
  exact h.trans rfl
theorem cAhd {sh : Shp} {kk : Nat} {σ : Mem} {a : AX} {z w : Int} (hI : LI (sh, σ, kk) a) (hz : i32 z) (hw : i32 w) : ∃ σ', run sh (d + 5) 126 [mR 0, mI z, mI w] σ = some (some (mI (aAhead a z w)), σ') ∧ LI (sh, σ', kk) a ∧ fr9 σ σ' :=
  cX (as := [mR 0, mI z, mI w]) hI (okA_of (zs := [z, w])) (X126 hI.1 hI.2.1 hz hw)
theorem cGis {sh : Shp} {kk : Nat} {σ : Mem} {a : AX} {z w : Int} (hI : LI (sh, σ, kk) a) (hz : i32 z) (hw : i32 w) : ∃ σ', run sh (d + 6) 125 [mR 0, mI z, mI w] σ = some (some (mI (aGateIs a z w)), σ') ∧ LI (sh, σ', kk) a ∧ fr9 σ σ' :=
  cX (as := [mR 0, mI z, mI w]) hI (okA_of (zs := [z, w])) (X125 hI.1 hI.2.1 hz hw)
theorem B288r {L : Nat} {sh : Shp} {kk : Nat} {σ : Mem} {a : AX} (hI : LI (sh, σ, kk) a) (ks : skd sh 1000001 = 0) (ls : sln sh 1000001 = L) (hL : L ≤ 260) (hN : sh.1 + 1 < 1000000) :
    ∃ σ', pv (d + 11) 288 8 [some (mR (1000001)), some (mR (0)), none, none, none, none, none] [] (sh, σ, kk) = pv (d + 11) 288 29 [some (mR (1000001)), some (mR (0)), some (mR (sh.1)), none, none, none, none] [] (pgS sh 0 1, σ', kk + 1) ∧ LI (pgS sh 0 1, σ', kk + 1) a := by
  have hn9 := hI.n.1
  replace hn9 : 124 ≤ sh.1 := hn9
  have L1 : LI (pgS sh 0 1, pgI sh σ, kk + 1) a := (hI.new (by omega)).1
  have z1 : (wi 1).toNat = 1 := rfl
  have h1 : 0 ≤ wi 1 := by decide
  have u1 : wi 1 ≤ 4096 := by decide
  have ks1 : skd (pgS sh 0 1) 1000001 = 0 := (pgS_kn (by omega)).trans ks
  have ls1 : sln (pgS sh 0 1) 1000001 = L := (pgS_ln (by omega)).trans ls
  have kr : skd (pgS sh 0 1) sh.1 = 0 := pgS_k
  have lr : sln (pgS sh 0 1) sh.1 = 1 := pgS_l
  have wr : sh.1 < (pgS sh 0 1).1 := pgS_w
  have w1' : wi ((1 : Nat) : Int) = 1 := rfl
  have wL : wi (L : Int) = (L : Int) := wN (by omega)
  obtain ⟨τ, eτ⟩ : ∃ τ, τ = pgI sh σ := ⟨_, rfl⟩
  rw [← eτ] at L1
  have E : ∀ v : Int, ∃ σ' : Mem, pv (d + 11) 288 27 [some (mR (1000001)), some (mR (0)), none, none, none, none, none] (.inl v :: .inl 0 :: .inr (.inr sh.1) :: [.inr (.inr sh.1)]) (pgS sh 0 1, τ, kk + 1) = pv (d + 11) 288 29 [some (mR (1000001)), some (mR (0)), some (mR (sh.1)), none, none, none, none] [] (pgS sh 0 1, σ', kk + 1) ∧ LI (pgS sh 0 1, σ', kk + 1) a := fun v => by
    refine ⟨(upA τ.1 sh.1 (up1 (τ.1 sh.1) 0 v), τ.2), ?_, L1.up1 hn9 (by omega)⟩
    simp (disch := first | assumption | omega | (simp (disch := omega) only [wN, w0, w1]; omega)) only [e288_27, e288_28, kl_I, kl_R, kl_N, kl_L, oSm, oNn, Option.bind_some, wN, if_pos, if_neg, nS, tN, t0, w0, w1, w2, w3, w4, w5, wm1, upA_ne, upA_same, if_true, if_false, Bool.false_eq_true, lr]
  have hpw : pwk sh.1 [some (mR (1000001)), some (mR (0)), none, none, none, none, none] [] = true := by
    simp only [pwk, List.all_cons, List.all_nil, Bool.and_true, pok_N, pok_R (show 0 < sh.1 by omega), pok_O (show 1000000 ≤ 1000001 by omega)]
  by_cases h0 : L = 0
  · subst h0
    obtain ⟨σ', e', L'⟩ := E 3278
    refine ⟨σ', ?_, L'⟩
    rw [e288_8, e288_9 h1 u1 (by omega) hpw, z1, ← eτ, ← e']
    simp (disch := first | assumption | omega | (simp (disch := omega) only [wN, w0, w1]; omega)) only [e288_11I, e288_11R, e288_12, e288_13, e288_14, e288_15, e288_18, e288_21, e288_24, e288_25, e288_26, kl_I, kl_R, kl_N, kl_L, oSm, oNn, Option.bind_some, wN, if_pos, if_neg, nS, tN, t0, w0, w1, w2, w3, w4, w5, wm1, upA_ne, upA_same, if_true, if_false, Bool.false_eq_true, ls1]
  · obtain ⟨σ', e', L'⟩ := E (τ.1 1000001 0)
    refine ⟨σ', ?_, L'⟩
    rw [e288_8, e288_9 h1 u1 (by omega) hpw, z1, ← eτ, ← e']
    simp (disch := first | assumption | omega | (simp (disch := omega) only [wN, w0, w1]; omega)) only [e288_11I, e288_11R, e288_12, e288_13, e288_14, e288_15, e288_18, e288_21, e288_24, e288_25, e288_26, kl_I, kl_R, kl_N, kl_L, oSm, oNn, Option.bind_some, wN, if_pos, if_neg, nS, tN, t0, w0, w1, w2, w3, w4, w5, wm1, upA_ne, upA_same, if_true, if_false, Bool.false_eq_true, ls1, wL]
theorem B288a {L : Nat} {sh : Shp} {kk : Nat} {σ : Mem} {a : AX} (hI : LI (sh, σ, kk) a) (hn : a.1.1 = 2) (hc : a.1.2.1 = []) (hK : a.2.1 = none) (hs : a.2.2.2.1 = 0) (ks : skd sh 1000001 = 0) (ls : sln sh 1000001 = L) (hL : L ≤ 260) (hN : sh.1 + 1 < 1000000) :
    ∃ σ' a', pv (d + 11) 288 8 [some (mR (1000001)), some (mR (0)), none, none, none, none, none] [] (sh, σ, kk) = pv (d + 11) 288 76 [some (mR (1000001)), some (mR (0)), some (mR (sh.1)), some (mI (1)), some (mI (0)), none, none] [] (pgS sh 0 1, σ', kk + 1) ∧ LI (pgS sh 0 1, σ', kk + 1) a' ∧ a'.2.2.2.1 = 0 := by
  obtain ⟨σ1, e1, L1⟩ := B288r (d := d) hI ks ls hL hN
  have xo := L1.1.1
  have s0 : aSame a 0 = -3 := by
    unfold aSame
    rw [if_neg (by omega), hK]
  have p4 : ((2 ^ a.1.1 : Nat) : Int) = 4 := by rw [hn]; rfl
  have a0 : aAmp a 0 0 0 = 1 := by
    unfold aAmp
    rw [p4, if_neg (by omega), if_neg (by omega), hc]; rfl
  have q0 : aSpr a 3 = 1 := by
    unfold aSpr
    rw [p4, if_neg (by omega), hc, hn]; decide +kernel
  obtain ⟨σ2, x2, L2, -⟩ := cSame (d := d + 4) (w := 0) L1 (by unfold i32; omega) s0
  obtain ⟨σ3, x3, L3, -⟩ := cAmp (d := d + 6) (z := 0) (w := 0) (v := 0) L2 (by unfold i32; omega) (by unfold i32; omega) (by unfold i32; omega)
  obtain ⟨σ4, x4, L4, -⟩ := cSpr (d := d + 6) (z := 3) L3 (by unfold i32; omega)
  obtain ⟨σ5, x5, L5, -⟩ := cSht (d := d + 4) L4
  rw [a0] at x3
  rw [q0] at x4
  have e0 : (shS a.1.2.1).1 = 0 := by rw [hc]; rfl
  rw [e0] at x5
  replace x2 : run (pgS sh 0 1) (d + 10) 135 [mR 0, mI 0] σ1 = some (some (mI (-3)), σ2) := x2
  replace x3 : run (pgS sh 0 1) (d + 10) 132 [mR 0, mI 0, mI 0, mI 0] σ2 = some (some (mL 1), σ3) := x3
  replace x4 : run (pgS sh 0 1) (d + 10) 134 [mR 0, mI 3] σ3 = some (some (mI 1), σ4) := x4
  replace x5 : run (pgS sh 0 1) (d + 10) 129 [mR 0] σ4 = some (some (mI 0), σ5) := x5
  refine ⟨σ5, _, ?_, L5, hs⟩
  have wm3 : wi (-3) = -3 := rfl
  rw [e1]
  simp (disch := first | assumption | omega | (simp (disch := omega) only [wN, w0, w1]; omega)) only [e288_29, e288_30, e288_31, e288_34, e288_36, e288_39, e288_40, e288_41, e288_42, e288_43, e288_46, e288_47, e288_48, e288_51, e288_52, e288_53, e288_56, e288_57, e288_60, e288_61, e288_64, e288_67, e288_68, e288_71, e288_72, e288_73, e288_74, kl_I, kl_R, kl_N, kl_L, oSm, oNn, Option.bind_some, wN, if_pos, if_neg, nS, tN, t0, w0, w1, w2, w3, w4, w5, wm1, upA_ne, upA_same, if_true, if_false, Bool.false_eq_true, x2, x3, x4, x5, lcmp_s, wm3]
end PG7

