/-! ===== the law: a circuit's rows are made, walked ===== -/
section PG3b
variable {d ρ n my : Nat}
/-- the shape that a circuit's rows leave -/
def shC (sh : Shp) : Shp := pgS (pgS (pgS sh 0 121) 0 160) 0 6
theorem B166a {sh : Shp} {kk : Nat} {σ : Mem} {a : AX} (hI : LI (sh, σ, kk) a) (r9 : 124 ≤ ρ) (rs : ρ < sh.1) (hN : sh.1 + 3 < 1000000) :
    ∃ σ', prun (d + 10) 166 [mR 0, mR ρ, mI (n : Int), mI (my : Int), mI 6] (sh, σ, kk) = pv (d + 10) 166 1480 [some (mR (0)), some (mR (ρ)), some (mI ((n : Nat) : Int)), some (mI ((my : Nat) : Int)), some (mI (6)), some (mR (sh.1)), some (mR ((sh.1 + 1))), some (mR ((sh.1 + 2))), some (mI ((0 : Nat) : Int)), some (mI ((0 : Nat) : Int)), none, none] [] (shC sh, σ', kk + 121 + 160 + 6) ∧ LI (shC sh, σ', kk + 121 + 160 + 6) a ∧ (∀ k, k < 6 → σ'.1 (sh.1 + 2) k = (ltr k : Int)) ∧ ∀ b, 124 ≤ b → b < sh.1 → σ'.1 b = σ.1 b ∧ σ'.2 b = σ.2 b := by
  have hn9 := hI.n.1
  replace hn9 : 124 ≤ sh.1 := hn9
  have I1 : LI (pgS sh 0 121, pgI sh σ, kk + 121) a := (hI.new (by omega)).1
  have I2 : LI (pgS (pgS sh 0 121) 0 160, pgI (pgS sh 0 121) (pgI sh σ), kk + 121 + 160) a := (I1.new (by show sh.1 + 1 < _; omega)).1
  have I3 : LI (shC sh, pgI (pgS (pgS sh 0 121) 0 160) (pgI (pgS sh 0 121) (pgI sh σ)), kk + 121 + 160 + 6) a := (I2.new (by show sh.1 + 1 + 1 < _; omega)).1
  have z1 : (wi 121).toNat = 121 := rfl
  have z2 : (wi 160).toNat = 160 := rfl
  have z3 : (wi 6).toNat = 6 := rfl
  have l1 : 0 ≤ wi 121 := by decide
  have l2 : 0 ≤ wi 160 := by decide
  have l3 : 0 ≤ wi 6 := by decide
  have u1 : wi 121 ≤ 4096 := by decide
  have u2 : wi 160 ≤ 4096 := by decide
  have u3 : wi 6 ≤ 4096 := by decide
  have F1 := for_up (fun k => pv (d + 10) 166 (zpc 4 k) [some (mR (0)), some (mR (ρ)), some (mI ((n : Nat) : Int)), some (mI ((my : Nat) : Int)), some (mI (6)), none, none, none, none, none, none, none] [.inr (.inr sh.1)] (pgS sh 0 121, pgI sh σ, kk + 121)) 121 (fun k hk => zst (by omega) (z4_1 k hk) (z4_2 k hk) (z4_3 k hk) (z4_4 k hk) pgS_k (by rw [pgS_l]; exact hk) pgS_w (by show upA _ _ _ _ = _; rw [upA_same])) 0 (Nat.zero_le _)
  replace F1 : pv (d + 10) 166 4 [some (mR (0)), some (mR (ρ)), some (mI ((n : Nat) : Int)), some (mI ((my : Nat) : Int)), some (mI (6)), none, none, none, none, none, none, none] [.inr (.inr sh.1)] (pgS sh 0 121, pgI sh σ, kk + 121) = pv (d + 10) 166 603 [some (mR (0)), some (mR (ρ)), some (mI ((n : Nat) : Int)), some (mI ((my : Nat) : Int)), some (mI (6)), none, none, none, none, none, none, none] [.inr (.inr sh.1)] (pgS sh 0 121, pgI sh σ, kk + 121) := F1
  have F2 := for_up (fun k => pv (d + 10) 166 (zpc 610 k) [some (mR (0)), some (mR (ρ)), some (mI ((n : Nat) : Int)), some (mI ((my : Nat) : Int)), some (mI (6)), some (mR (sh.1)), none, none, none, none, none, none] [.inr (.inr (pgS sh 0 121).1)] (pgS (pgS sh 0 121) 0 160, pgI (pgS sh 0 121) (pgI sh σ), kk + 121 + 160)) 160 (fun k hk => zst (by omega) (z6_1 k hk) (z6_2 k hk) (z6_3 k hk) (z6_4 k hk) pgS_k (by rw [pgS_l]; exact hk) pgS_w (by show upA _ _ _ _ = _; rw [upA_same])) 0 (Nat.zero_le _)
  replace F2 : pv (d + 10) 166 610 [some (mR (0)), some (mR (ρ)), some (mI ((n : Nat) : Int)), some (mI ((my : Nat) : Int)), some (mI (6)), some (mR (sh.1)), none, none, none, none, none, none] [.inr (.inr (sh.1 + 1))] (pgS (pgS sh 0 121) 0 160, pgI (pgS sh 0 121) (pgI sh σ), kk + 121 + 160) = pv (d + 10) 166 1436 [some (mR (0)), some (mR (ρ)), some (mI ((n : Nat) : Int)), some (mI ((my : Nat) : Int)), some (mI (6)), some (mR (sh.1)), none, none, none, none, none, none] [.inr (.inr (sh.1 + 1))] (pgS (pgS sh 0 121) 0 160, pgI (pgS sh 0 121) (pgI sh σ), kk + 121 + 160) := F2
  have k3 : skd (shC sh) (sh.1 + 2) = 0 := pgS_k (sh := pgS (pgS sh 0 121) 0 160)
  have n3 : sln (shC sh) (sh.1 + 2) = 6 := pgS_l (sh := pgS (pgS sh 0 121) 0 160)
  have wx3 : sh.1 + 2 < (shC sh).1 := Nat.lt_succ_self _
  have tt1 : (1 : Int).toNat = 1 := rfl
  have tt2 : (2 : Int).toNat = 2 := rfl
  have tt3 : (3 : Int).toNat = 3 := rfl
  have tt4 : (4 : Int).toNat = 4 := rfl
  have tt5 : (5 : Int).toNat = 5 := rfl
  obtain ⟨σ3, e3⟩ : ∃ σ3 : Mem, σ3 = pgI (pgS (pgS sh 0 121) 0 160) (pgI (pgS sh 0 121) (pgI sh σ)) := ⟨_, rfl⟩
  rw [← e3] at I3
  have f3 : ∀ b, 124 ≤ b → b < sh.1 → σ3.1 b = σ.1 b ∧ σ3.2 b = σ.2 b := fun b _ h2 => by
    rw [e3]
    refine ⟨?_, rfl⟩
    show upA (upA (upA σ.1 sh.1 _) (sh.1 + 1) _) (sh.1 + 2) _ b = _
    rw [upA_ne (by omega), upA_ne (by omega), upA_ne (by omega)]
  refine ⟨(upA σ3.1 (sh.1 + 2) (up1 (up1 (up1 (up1 (up1 (up1 (σ3.1 (sh.1 + 2)) 0 114) 1 104) 2 120) 3 99) 4 100) 5 119), σ3.2), ?_, I3.up1 (by omega) (by omega), fun k hk => ?_, fun b h1 h2 => ⟨(upA_ne (by omega)).trans (f3 b h1 h2).1, (f3 b h1 h2).2⟩⟩
  · rw [q166]
    simp (disch := first | assumption | omega | (simp (disch := omega) only [wN, w0, w1]; omega)) only [e166_0, kl_I, kl_R, kl_N, kl_L, oSm, oNn, Option.bind_some, wN, if_pos, if_neg, nS, tN, t0, w0, w1, w2, w3, w4, w5, wm1, upA_ne, upA_same, if_true, if_false, Bool.false_eq_true]
    rw [e166_2 l1 u1 (by omega) (by simp [pwk, pok]; omega), z1, F1]
    simp (disch := first | assumption | omega | (simp (disch := omega) only [wN, w0, w1]; omega)) only [e166_603, e166_605, kl_I, kl_R, kl_N, kl_L, oSm, oNn, Option.bind_some, wN, if_pos, if_neg, nS, tN, t0, w0, w1, w2, w3, w4, w5, wm1, upA_ne, upA_same, if_true, if_false, Bool.false_eq_true]
    rw [e166_608 l2 u2 (by show sh.1 + 1 < _; omega) (by simp [pwk, pok, pgS]; omega), z2]
    refine (show _ = _ from F2).trans ?_
    simp (disch := first | assumption | omega | (simp (disch := omega) only [wN, w0, w1]; omega)) only [e166_1436, e166_1438, kl_I, kl_R, kl_N, kl_L, oSm, oNn, Option.bind_some, wN, if_pos, if_neg, nS, tN, t0, w0, w1, w2, w3, w4, w5, wm1, upA_ne, upA_same, if_true, if_false, Bool.false_eq_true]
    rw [e166_1440 l3 u3 (by show sh.1 + 1 + 1 < _; omega) (by simp [pwk, pok, pgS]; omega), z3, ← e3]
    show pv (d + 10) 166 1442 [some (mR (0)), some (mR (ρ)), some (mI ((n : Nat) : Int)), some (mI ((my : Nat) : Int)), some (mI (6)), some (mR (sh.1)), some (mR ((sh.1 + 1))), none, none, none, none, none] [.inr (.inr (sh.1 + 2))] (shC sh, σ3, kk + 121 + 160 + 6) = _
    simp (disch := first | assumption | omega | (simp (disch := omega) only [wN, w0, w1]; omega)) only [e166_1442I, e166_1442R, e166_1443, e166_1444, e166_1446, e166_1447I, e166_1447R, e166_1448, e166_1449, e166_1451, e166_1452I, e166_1452R, e166_1453, e166_1454, e166_1456, e166_1457I, e166_1457R, e166_1458, e166_1459, e166_1461, e166_1462I, e166_1462R, e166_1463, e166_1464, e166_1466, e166_1467I, e166_1467R, e166_1468, e166_1469, e166_1471, e166_1472, e166_1474, e166_1475, e166_1477, e166_1478, kl_I, kl_R, kl_N, kl_L, oSm, oNn, Option.bind_some, wN, if_pos, if_neg, nS, tN, t0, w0, w1, w2, w3, w4, w5, wm1, upA_ne, upA_same, if_true, if_false, Bool.false_eq_true, n3, tt1, tt2, tt3, tt4, tt5, upA_upA]
    all_goals rfl
  · show upA _ _ _ _ k = _
    rw [upA_same]
    rcases (show k = 0 ∨ k = 1 ∨ k = 2 ∨ k = 3 ∨ k = 4 ∨ k = 5 by omega) with rfl | rfl | rfl | rfl | rfl | rfl <;> rfl
end PG3b

