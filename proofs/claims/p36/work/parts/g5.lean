/-! ===== the law: a circuit's gates are drawn and written down ===== -/
section PG5
variable {d ρ n my A T Lr : Nat}
theorem B166b {a : AX} (n1 : 1 ≤ n) (n4 : n ≤ 4) (hmy : my ≤ 23) (r9 : 124 ≤ ρ) (hρA : ρ < A) (hAT : A < T) (hTL : T < Lr) : ∀ (l : Nat) (c : List Gt) (sh : Shp) (σ : Mem) (kk : Nat) (v10 v11 : Option MV), my ≤ c.length + l → c.length ≤ my → LI (sh, σ, kk) a → Lr < sh.1 → skd sh ρ = 0 → sln sh ρ = 1 → skd sh A = 0 → sln sh A = 121 → skd sh T = 0 → sln sh T = 160 → skd sh Lr = 0 → sln sh Lr = 6 → (∀ k, k < 6 → σ.1 Lr k = (ltr k : Int)) → okC n c → (TT c).length ≤ 120 → tXR (σ.1 T) c → gRp (σ.1 A) c → sh.1 + l < 1000000 → pok sh.1 v10 = true → pok sh.1 v11 = true →
    ∃ (c' : List Gt) (sh2 : Shp) (σ2 : Mem) (kk2 : Nat) (w10 w11 : Option MV), pv (d + 10) 166 1480 [some (mR (0)), some (mR (ρ)), some (mI ((n : Nat) : Int)), some (mI ((my : Nat) : Int)), some (mI (6)), some (mR (A)), some (mR (T)), some (mR (Lr)), some (mI (((TT c).length : Nat) : Int)), some (mI ((c.length : Nat) : Int)), v10, v11] [] (sh, σ, kk) = pv (d + 10) 166 1646 [some (mR (0)), some (mR (ρ)), some (mI ((n : Nat) : Int)), some (mI ((my : Nat) : Int)), some (mI (6)), some (mR (A)), some (mR (T)), some (mR (Lr)), some (mI (((TT c').length : Nat) : Int)), some (mI ((c'.length : Nat) : Int)), w10, w11] [] (sh2, σ2, kk2) ∧ LI (sh2, σ2, kk2) a ∧ Ex sh sh2 ∧ sh2.1 ≤ sh.1 + l ∧ kk2 ≤ kk + 4 * l ∧ okC n c' ∧ c'.length ≤ my ∧ (TT c').length ≤ 120 ∧ tXR (σ2.1 T) c' ∧ gRp (σ2.1 A) c' ∧ pok sh2.1 w10 = true ∧ pok sh2.1 w11 = true ∧ ∀ b, 124 ≤ b → b < sh.1 → b ≠ ρ → b ≠ A → b ≠ T → σ2.1 b = σ.1 b ∧ σ2.2 b = σ.2 b := by
  intro l
  induction l with
  | zero =>
    intro c sh σ kk v10 v11 hm hc hI wL kρ lρ kA lA kT lT kL lL hl hv ht hX hG hN p10 p11
    have e : c.length = my := by omega
    refine ⟨c, sh, σ, kk, v10, v11, ?_, hI, Ex.rf, by omega, by omega, hv, hc, ht, hX, hG, p10, p11, fun b _ _ _ _ _ => ⟨rfl, rfl⟩⟩
    rw [e166_1480]
    simp (disch := first | assumption | omega | (simp (disch := omega) only [wN, w0, w1]; omega)) only [e166_1482, e166_1483, kl_I, kl_R, kl_N, kl_L, oSm, oNn, Option.bind_some, wN, if_pos, if_neg, nS, tN, t0, w0, w1, w2, w3, w4, w5, wm1, upA_ne, upA_same, if_true, if_false, Bool.false_eq_true]
  | succ l ih =>
    intro c sh σ kk v10 v11 hm hc hI wL kρ lρ kA lA kT lT kL lL hl hv ht hX hG hN p10 p11
    have w112 : wi 112 = 112 := rfl
    by_cases h1 : c.length < my
    · by_cases h2 : (TT c).length < 112
      · have hn9 := hI.n.1
        replace hn9 : 124 ≤ sh.1 := hn9
        have wρ : ρ < sh.1 := by omega
        have wA : A < sh.1 := by omega
        have wT : T < sh.1 := by omega
        obtain ⟨r, S1, b1, rfl, e1, k1, L1, ⟨q, hq, hd⟩, f1⟩ := B165 (d := d + 8) (n := n) hI n1 n4 r9 wρ kρ lρ (by omega)
        obtain ⟨sh1, σ1, kk1⟩ := S1
        replace e1 : sh1 = pgS sh 0 4 := e1
        replace k1 : kk1 = kk + 4 := k1
        subst e1
        subst k1
        replace hd : dRw (σ1.1 sh.1) q := hd
        have kT1 : skd (pgS sh 0 4) T = 0 := (pgS_kn (by omega)).trans kT
        have lT1 : sln (pgS sh 0 4) T = 160 := (pgS_ln (by omega)).trans lT
        have kA1 : skd (pgS sh 0 4) A = 0 := (pgS_kn (by omega)).trans kA
        have lA1 : sln (pgS sh 0 4) A = 121 := (pgS_ln (by omega)).trans lA
        have kL1 : skd (pgS sh 0 4) Lr = 0 := (pgS_kn (by omega)).trans kL
        have lL1 : sln (pgS sh 0 4) Lr = 6 := (pgS_ln (by omega)).trans lL
        have kρ1 : skd (pgS sh 0 4) ρ = 0 := (pgS_kn (by omega)).trans kρ
        have lρ1 : sln (pgS sh 0 4) ρ = 1 := (pgS_ln (by omega)).trans lρ
        have kD1 : skd (pgS sh 0 4) sh.1 = 0 := pgS_k
        have lD1 : sln (pgS sh 0 4) sh.1 = 4 := pgS_l
        have hs1 : (if c = [] then [] else [59] : List Nat).length ≤ 1 := by split <;> simp
        have hif : (if c.length = 0 then [] else [59] : List Nat) = if c = [] then [] else [59] := by
          by_cases e : c = []
          · rw [if_pos e, if_pos (by rw [e]; rfl)]
          · rw [if_neg e, if_neg (by intro h; exact e (List.length_eq_zero_iff.mp h))]
        have g4 := (gt1_l q).1
        have E1 := C166s (sh := pgS sh 0 4) (d := d) (kk := kk + 4) (ρ := ρ) (n := n) (my := my) (A := A) (T := T) (Lr := Lr) (p := (TT c).length) (o := c.length) (σ := σ1) (v10 := some (mR sh.1)) (v11 := v11) kT1 lT1 (by show T < sh.1 + 1; omega) h2 (by omega)
        rw [hif] at E1
        have fL : ∀ g : Nat → Int, upA σ1.1 T g Lr = σ.1 Lr := fun g => by
          rw [upA_ne (by omega)]; exact (f1 Lr (by omega) (by omega) (by omega)).1
        have E2 := C166g (sh := pgS sh 0 4) (d := d) (kk := kk + 4) (ρ := ρ) (n := n) (my := my) (A := A) (T := T) (Lr := Lr) (D := sh.1) (p := (TT c).length + (if c = [] then [] else [59] : List Nat).length) (o := c.length) (σ := (upA σ1.1 T (wr (σ1.1 T) (TT c).length (if c = [] then [] else [59])), σ1.2)) (v11 := v11) (q := q) n4 hq (by
            show dRw (upA _ _ _ sh.1) q
            rw [upA_ne (by omega)]; exact hd) (fun k hk => by
            show upA _ _ _ Lr k = _
            rw [fL]; exact hl k hk) kT1 lT1 (by show T < sh.1 + 1; omega) kL1 lL1 kD1 lD1 (by omega) (by omega) (by omega)
        have eT : (TT (c ++ [q])).length = (TT c).length + (if c = [] then [] else [59] : List Nat).length + (gt1 q).length := by
          rw [TT_app, List.length_append, List.length_append, Nat.add_assoc]
        have em : ((upA (upA σ1.1 T (wr (σ1.1 T) (TT c).length (if c = [] then [] else [59]))) T (wr (upA σ1.1 T (wr (σ1.1 T) (TT c).length (if c = [] then [] else [59])) T) ((TT c).length + (if c = [] then [] else [59] : List Nat).length) (gt1 q)), σ1.2) : Mem) = (upA σ1.1 T (wr (σ1.1 T) (TT c).length ((if c = [] then [] else [59]) ++ gt1 q)), σ1.2) := by
          rw [upA_same, upA_upA, wr_app]
        replace E2 := E2.trans (congrArg (fun m : Mem => pv (d + 10) 166 1610 [some (mR (0)), some (mR (ρ)), some (mI ((n : Nat) : Int)), some (mI ((my : Nat) : Int)), some (mI (6)), some (mR (A)), some (mR (T)), some (mR (Lr)), some (mI (((TT c).length + (if c = [] then [] else [59] : List Nat).length + (gt1 q).length : Nat) : Int)), some (mI ((c.length : Nat) : Int)), some (mR (sh.1)), v11] [] (pgS sh 0 4, m, kk + 4)) em)
        rw [← eT] at E2
        have tX2 : tXR (wr (σ1.1 T) (TT c).length ((if c = [] then [] else [59]) ++ gt1 q)) (c ++ [q]) := tXR.app (by rw [(f1 T (by omega) (by omega) (by omega)).1]; exact hX)
        obtain ⟨g, eg⟩ : ∃ g, g = wr (σ1.1 T) (TT c).length ((if c = [] then [] else [59]) ++ gt1 q) := ⟨_, rfl⟩
        rw [← eg] at E2 tX2
        have E3 := C166r (sh := pgS sh 0 4) (d := d) (kk := kk + 4) (ρ := ρ) (n := n) (my := my) (A := A) (T := T) (Lr := Lr) (D := sh.1) (p := (TT (c ++ [q])).length) (o := c.length) (σ := (upA σ1.1 T g, σ1.2)) (v11 := v11) kA1 lA1 (by show A < sh.1 + 1; omega) kD1 lD1 (by omega) (by omega)
        have eA : upA σ1.1 T g A = σ.1 A := by rw [upA_ne (by omega)]; exact (f1 A (by omega) (by omega) (by omega)).1
        have eD : upA σ1.1 T g sh.1 = σ1.1 sh.1 := upA_ne (by omega)
        replace E3 := E3.trans (congrArg (fun m : Mem => pv (d + 10) 166 1480 [some (mR (0)), some (mR (ρ)), some (mI ((n : Nat) : Int)), some (mI ((my : Nat) : Int)), some (mI (6)), some (mR (A)), some (mR (T)), some (mR (Lr)), some (mI (((TT (c ++ [q])).length : Nat) : Int)), some (mI ((c.length + 1 : Nat) : Int)), some (mR (sh.1)), some (mI ((4 : Nat) : Int))] [] (pgS sh 0 4, m, kk + 4)) (show ((upA (upA σ1.1 T g) A (cpR (upA σ1.1 T g A) (upA σ1.1 T g sh.1) (4 * c.length) 4), σ1.2) : Mem) = (upA (upA σ1.1 T g) A (cpR (σ.1 A) (σ1.1 sh.1) (4 * c.length) 4), σ1.2) by rw [eA, eD]))
        have G2 : gRp (cpR (σ.1 A) (σ1.1 sh.1) (4 * c.length) 4) (c ++ [q]) := hG.app hd
        obtain ⟨g', eg'⟩ : ∃ g', g' = cpR (σ.1 A) (σ1.1 sh.1) (4 * c.length) 4 := ⟨_, rfl⟩
        rw [← eg'] at E3 G2
        have L2 : LI (pgS sh 0 4, (upA (upA σ1.1 T g) A g', σ1.2), kk + 4) a := LI.up1 (σ := (upA σ1.1 T g, σ1.2)) (L1.up1 (by omega) (by omega)) (by omega) (by omega)
        have el : (c ++ [q]).length = c.length + 1 := by rw [List.length_append]; rfl
        obtain ⟨c', sh2, σ2, kk2, w10, w11, E4, a1, a2, a3, a4, a5, a6, a7, a8, a9, a10, a11, a12⟩ := ih (c ++ [q]) (pgS sh 0 4) (upA (upA σ1.1 T g) A g', σ1.2) (kk + 4) (some (mR sh.1)) (some (mI ((4 : Nat) : Int))) (by omega) (by omega) L2 (by show Lr < sh.1 + 1; omega) kρ1 lρ1 kA1 lA1 kT1 lT1 kL1 lL1 (fun k hk => by
            show upA (upA σ1.1 T g) A g' Lr k = _
            rw [upA_ne (by omega), fL]; exact hl k hk) (fun y hy => by
            rcases List.mem_append.mp hy with h | h
            · exact hv y h
            · rw [List.mem_singleton.mp h]; exact hq) (by rw [eT]; omega) (by
            show tXR (upA (upA σ1.1 T g) A g' T) _
            rw [upA_ne (by omega), upA_same]; exact tX2) (by
            show gRp (upA (upA σ1.1 T g) A g' A) _
            rw [upA_same]; exact G2) (by show sh.1 + 1 + l < _; omega) (pok_R pgS_w) rfl
        rw [el] at E4
        replace a3 : sh2.1 ≤ sh.1 + 1 + l := a3
        refine ⟨c', sh2, σ2, kk2, w10, w11, ?_, a1, (Ex.gr (by omega)).tr a2, by omega, by omega, a5, a6, a7, a8, a9, a10, a11, fun b h1 h2 h3 h4 h5 => ?_⟩
        · rw [e166_1480]
          simp (disch := first | assumption | omega | (simp (disch := omega) only [wN, w0, w1]; omega)) only [e166_1482, e166_1483, e166_1486, e166_1488, e166_1490, e166_1493, e166_1494, e166_1495, kl_I, kl_R, kl_N, kl_L, oSm, oNn, Option.bind_some, wN, if_pos, if_neg, nS, tN, t0, w0, w1, w2, w3, w4, w5, wm1, upA_ne, upA_same, if_true, if_false, Bool.false_eq_true, w112]
          rw [e166_1497 (by simp only [pwk, List.all_cons, List.all_nil, List.cons_append, List.nil_append, List.append_nil, Bool.and_true, pok_I, pok_R (show 0 < sh.1 by omega), pok_R wρ, pok_R wA, pok_R wT, pok_R wL, p10, p11]), b1]
          refine Eq.trans ?_ (E1.trans (E2.trans (E3.trans E4)))
          simp (disch := first | assumption | omega | (simp (disch := omega) only [wN, w0, w1]; omega)) only [e166_1500, kl_I, kl_R, kl_N, kl_L, oSm, oNn, Option.bind_some, wN, if_pos, if_neg, nS, tN, t0, w0, w1, w2, w3, w4, w5, wm1, upA_ne, upA_same, if_true, if_false, Bool.false_eq_true]
        · have q := a12 b h1 (by show b < sh.1 + 1; omega) h3 h4 h5
          have e2 : upA (upA σ1.1 T g) A g' b = σ1.1 b := by rw [upA_ne h4, upA_ne h5]
          have q1 := f1 b h1 h3 (by omega)
          exact ⟨(q.1.trans e2).trans q1.1, q.2.trans q1.2⟩
      · refine ⟨c, sh, σ, kk, v10, v11, ?_, hI, Ex.rf, by omega, by omega, hv, hc, ht, hX, hG, p10, p11, fun b _ _ _ _ _ => ⟨rfl, rfl⟩⟩
        have wt : wi ((TT c).length : Int) = ((TT c).length : Int) := wN (by omega)
        rw [e166_1480]
        simp (disch := first | assumption | omega | (simp (disch := omega) only [wN, w0, w1]; omega)) only [e166_1482, e166_1483, e166_1486, e166_1488, e166_1490, kl_I, kl_R, kl_N, kl_L, oSm, oNn, Option.bind_some, wN, if_pos, if_neg, nS, tN, t0, w0, w1, w2, w3, w4, w5, wm1, upA_ne, upA_same, if_true, if_false, Bool.false_eq_true, w112, wt]
    · refine ⟨c, sh, σ, kk, v10, v11, ?_, hI, Ex.rf, by omega, by omega, hv, hc, ht, hX, hG, p10, p11, fun b _ _ _ _ _ => ⟨rfl, rfl⟩⟩
      rw [e166_1480]
      simp (disch := first | assumption | omega | (simp (disch := omega) only [wN, w0, w1]; omega)) only [e166_1482, e166_1483, kl_I, kl_R, kl_N, kl_L, oSm, oNn, Option.bind_some, wN, if_pos, if_neg, nS, tN, t0, w0, w1, w2, w3, w4, w5, wm1, upA_ne, upA_same, if_true, if_false, Bool.false_eq_true]
end PG5

