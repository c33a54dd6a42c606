/-! ===== the law: all amplitudes, two rows compared ===== -/
theorem pgS_k {sh : Shp} {kd n : Nat} : skd (pgS sh kd n) sh.1 = kd := by unfold skd; rw [pgS_at]
theorem pgS_l {sh : Shp} {kd n : Nat} : sln (pgS sh kd n) sh.1 = n := by unfold sln; rw [pgS_at]
theorem pgS_w {sh : Shp} {kd n : Nat} : sh.1 < (pgS sh kd n).1 := Nat.lt_succ_self _
theorem i32N {k : Nat} (h : k < 2147483648) : i32 (k : Int) := ⟨by omega, by omega⟩
theorem LI.up2 {sh : Shp} {σ : Mem} {kk b : Nat} {a : AX} {g : Nat → Int} (h : LI (sh, σ, kk) a) : LI (sh, (σ.1, upA σ.2 b g), kk) a := ⟨h.1, h.2.1.k (fun _ _ => rfl), h.2.2.1, h.2.2.2⟩
theorem LI.up1 {sh : Shp} {σ : Mem} {kk b : Nat} {a : AX} {g : Nat → Int} (h : LI (sh, σ, kk) a) (hb : 124 ≤ b) (hb2 : b < 1000000) : LI (sh, (upA σ.1 b g, σ.2), kk) a := ⟨h.1, h.2.1.k (fun c hc => upA_ne (by omega)), h.2.2.1, h.2.2.2⟩
theorem LI.kk {sh : Shp} {σ : Mem} {kk kk' : Nat} {a : AX} (h : LI (sh, σ, kk) a) : LI (sh, σ, kk') a := h
theorem LI.new {sh : Shp} {σ : Mem} {kk kk' kd n : Nat} {a : AX} (h : LI (sh, σ, kk) a) (hN : sh.1 < 1000000) : LI (pgS sh kd n, pgI sh σ, kk') a ∧ LI (pgS sh kd n, pgL sh σ, kk') a := by
  have hn := h.n.1
  have hn' : 124 ≤ sh.1 := hn
  have c : ∀ σ' : Mem, (∀ b, b < 124 ∨ 1000000 ≤ b → σ'.1 b = σ.1 b) → LI (pgS sh kd n, σ', kk') a := fun σ' hk => LI.ex (S := (sh, σ, 0)) (S' := (pgS sh kd n, σ', kk')) h ⟨Ex.gr hN, Nat.zero_le _, fun b hb => hk b (Or.inr hb), h.2.2.1.gr hN⟩ (fun b hb => hk b (Or.inl hb))
  exact ⟨c _ (fun b hb => upA_ne (by omega)), c _ (fun b hb => rfl)⟩
/-- the amplitude at a place of the row -/
def alV (a : AX) (i : Nat) : Int := aAmp a ((i / 80 : Nat) : Int) ((i / 5 % 16 : Nat) : Int) ((i % 5 : Nat) : Int)
def alR (a : AX) (f t k : Nat) : Nat → Int := fun i => if i / 5 % 16 < 2 ^ a.1.1 ∧ (i / 80 < f ∨ i / 80 = f ∧ (i / 5 % 16 < t ∨ i / 5 % 16 = t ∧ i % 5 < k)) then alV a i else 0
section PE2
variable {sh : Shp} {d kk n f t k : Nat} {σ : Mem} {a : AX}
theorem alR_f : alR a f (2 ^ a.1.1) 0 = alR a (f + 1) 0 0 := by
  funext i
  unfold alR
  by_cases h : i / 5 % 16 < 2 ^ a.1.1 ∧ (i / 80 < f ∨ i / 80 = f ∧ (i / 5 % 16 < 2 ^ a.1.1 ∨ i / 5 % 16 = 2 ^ a.1.1 ∧ i % 5 < 0))
  · rw [if_pos h, if_pos (by omega)]
  · rw [if_neg h, if_neg (by omega)]
theorem alR_t : alR a f t 5 = alR a f (t + 1) 0 := by
  funext i
  unfold alR
  by_cases h : i / 5 % 16 < 2 ^ a.1.1 ∧ (i / 80 < f ∨ i / 80 = f ∧ (i / 5 % 16 < t ∨ i / 5 % 16 = t ∧ i % 5 < 5))
  · rw [if_pos h, if_pos (by omega)]
  · rw [if_neg h, if_neg (by omega)]
theorem alR_k (ht : t < 2 ^ a.1.1) (h16 : t < 16) (hk : k < 5) : up1 (alR a f t k) (5 * (16 * f + t) + k) (aAmp a (f : Int) (t : Int) (k : Int)) = alR a f t (k + 1) := by
  funext i
  unfold alR up1
  by_cases e : i = 5 * (16 * f + t) + k
  · have e1 : i / 80 = f := by omega
    have e2 : i / 5 % 16 = t := by omega
    have e3 : i % 5 = k := by omega
    rw [if_pos e, if_pos (by omega)]
    unfold alV
    rw [e1, e2, e3]
  · rw [if_neg e]
    dsimp only
    by_cases h : i / 5 % 16 < 2 ^ a.1.1 ∧ (i / 80 < f ∨ i / 80 = f ∧ (i / 5 % 16 < t ∨ i / 5 % 16 = t ∧ i % 5 < k))
    · rw [if_pos h, if_pos (by omega)]
    · rw [if_neg h, if_neg (by omega)]
theorem alR_0 : (fun _ => 0) = alR a 0 0 0 := by
  funext i
  unfold alR
  rw [if_neg (by omega)]
theorem B167 (hI : LI (sh, σ, kk) a) (hn : a.1.1 = n) (n4 : n ≤ 4) (hN : sh.1 < 1000000) : PE (prun (d + 5) 167 [mR 0, mI (n : Int)] (sh, σ, kk)) (fun r S' => r = some (mR sh.1) ∧ S'.1 = pgS sh 3 1280 ∧ LI S' a ∧ (∀ b, 124 ≤ b → b ≠ sh.1 → S'.2.1.1 b = σ.1 b ∧ S'.2.1.2 b = σ.2 b) ∧ S'.2.1.2 sh.1 = alR a (2 ^ n) 0 0 ∧ S'.2.2 = kk + 1280) := by
  have hn0 : 124 ≤ sh.1 := hI.n.1
  have xo := ob.ex (Ex.gr (kd := 3) (n := 1280) hN) hI.1.1
  have l9 : sln (pgS sh 3 1280) sh.1 = 1280 := pgS_l
  have k9 : skd (pgS sh 3 1280) sh.1 = 3 := pgS_k
  have w9 : sh.1 < (pgS sh 3 1280).1 := pgS_w
  have w1280 : wi (1280 : Int) = 1280 := rfl
  have z1280 : (wi (1280 : Int)).toNat = 1280 := rfl
  have p16 : 2 ^ n ≤ 2 ^ 4 := Nat.pow_le_pow_right (by omega) n4
  have p1 : 1 ≤ 2 ^ n := Nat.one_le_two_pow
  subst hn
  have hpw : pwk sh.1 [some (mR 0), some (mI (a.1.1 : Int)), none, none, none, none] [] = true := by simp [pwk, pok]; omega
  have F := for_P (2 ^ a.1.1) (fun f => ∀ (σ1 : Mem) (v4 v5 : Option MV), (LI (pgS sh 3 1280, σ1, kk + 1280) a ∧ σ1.2 sh.1 = alR a f 0 0 ∧ (∀ b, 124 ≤ b → b ≠ sh.1 → σ1.1 b = σ.1 b ∧ σ1.2 b = σ.2 b)) → PE (pv (d + 5) 167 8 [some (mR (0)), some (mI ((a.1.1 : Nat) : Int)), some (mR ((sh.1))), some (mI ((f : Nat) : Int)), v4, v5] [] ((pgS sh 3 1280), σ1, kk + 1280)) (fun r S' => r = some (mR sh.1) ∧ S'.1 = pgS sh 3 1280 ∧ LI S' a ∧ (∀ b, 124 ≤ b → b ≠ sh.1 → S'.2.1.1 b = σ.1 b ∧ S'.2.1.2 b = σ.2 b) ∧ S'.2.1.2 sh.1 = alR a (2 ^ a.1.1) 0 0 ∧ S'.2.2 = kk + 1280)) (by
    intro σ1 v4 v5 hp
    replace hp : LI (pgS sh 3 1280, σ1, kk + 1280) a ∧ σ1.2 sh.1 = alR a (2 ^ a.1.1) 0 0 ∧ (∀ b, 124 ≤ b → b ≠ sh.1 → σ1.1 b = σ.1 b ∧ σ1.2 b = σ.2 b) := hp
    show PE (pv (d + 5) 167 8 [some (mR (0)), some (mI ((a.1.1 : Nat) : Int)), some (mR ((sh.1))), some (mI (((2 ^ a.1.1) : Nat) : Int)), v4, v5] [] ((pgS sh 3 1280), σ1, kk + 1280)) (fun r S' => r = some (mR sh.1) ∧ S'.1 = pgS sh 3 1280 ∧ LI S' a ∧ (∀ b, 124 ≤ b → b ≠ sh.1 → S'.2.1.1 b = σ.1 b ∧ S'.2.1.2 b = σ.2 b) ∧ S'.2.1.2 sh.1 = alR a (2 ^ a.1.1) 0 0 ∧ S'.2.2 = kk + 1280)
    rw [e167_8]
    simp (disch := first | assumption | omega | (simp (disch := omega) only [wN, w0, w1]; omega)) only [e167_0, e167_5, e167_6, e167_7, e167_9, e167_10, e167_11, e167_12, e167_15, e167_16, e167_20, e167_21, e167_22, e167_23, e167_26, e167_27, e167_31, e167_32, e167_35, e167_36, e167_37, e167_39, e167_40, e167_41, e167_43, e167_44, e167_45, e167_47, e167_48, e167_49, e167_50, e167_52, e167_54, e167_57, e167_58, e167_61, e167_64, e167_67, e167_70, e167_73, e167_76, e167_3, e167_77, kl_I, kl_R, kl_N, kl_L, oSm, oNn, Option.bind_some, wN, if_pos, if_neg, nS, tN, t0, w0, w1, w2, w3, w4, w5, wm1, upA_ne, upA_same, if_true, if_false, Bool.false_eq_true, xshl_1]
    exact PE.of rfl ⟨rfl, rfl, hp.1, hp.2.2, hp.2.1, rfl⟩) (fun f hi ih => by
    replace ih : ∀ (σ1 : Mem) (v4 v5 : Option MV), (LI (pgS sh 3 1280, σ1, kk + 1280) a ∧ σ1.2 sh.1 = alR a (f + 1) 0 0 ∧ (∀ b, 124 ≤ b → b ≠ sh.1 → σ1.1 b = σ.1 b ∧ σ1.2 b = σ.2 b)) → PE (pv (d + 5) 167 8 [some (mR (0)), some (mI ((a.1.1 : Nat) : Int)), some (mR ((sh.1))), some (mI (((f + 1) : Nat) : Int)), v4, v5] [] ((pgS sh 3 1280), σ1, kk + 1280)) (fun r S' => r = some (mR sh.1) ∧ S'.1 = pgS sh 3 1280 ∧ LI S' a ∧ (∀ b, 124 ≤ b → b ≠ sh.1 → S'.2.1.1 b = σ.1 b ∧ S'.2.1.2 b = σ.2 b) ∧ S'.2.1.2 sh.1 = alR a (2 ^ a.1.1) 0 0 ∧ S'.2.2 = kk + 1280) := ih
    intro σ1 v4 v5 hp
    replace hp : LI (pgS sh 3 1280, σ1, kk + 1280) a ∧ σ1.2 sh.1 = alR a f 0 0 ∧ (∀ b, 124 ≤ b → b ≠ sh.1 → σ1.1 b = σ.1 b ∧ σ1.2 b = σ.2 b) := hp
    show PE (pv (d + 5) 167 8 [some (mR (0)), some (mI ((a.1.1 : Nat) : Int)), some (mR ((sh.1))), some (mI ((f : Nat) : Int)), v4, v5] [] ((pgS sh 3 1280), σ1, kk + 1280)) (fun r S' => r = some (mR sh.1) ∧ S'.1 = pgS sh 3 1280 ∧ LI S' a ∧ (∀ b, 124 ≤ b → b ≠ sh.1 → S'.2.1.1 b = σ.1 b ∧ S'.2.1.2 b = σ.2 b) ∧ S'.2.1.2 sh.1 = alR a (2 ^ a.1.1) 0 0 ∧ S'.2.2 = kk + 1280)
    have ihF := ih
    have hf := hi
    have T := for_P (2 ^ a.1.1) (fun t => ∀ (σ2 : Mem) (v5 : Option MV), (LI (pgS sh 3 1280, σ2, kk + 1280) a ∧ σ2.2 sh.1 = alR a f t 0 ∧ (∀ b, 124 ≤ b → b ≠ sh.1 → σ2.1 b = σ.1 b ∧ σ2.2 b = σ.2 b)) → PE (pv (d + 5) 167 18 [some (mR (0)), some (mI ((a.1.1 : Nat) : Int)), some (mR ((sh.1))), some (mI ((f : Nat) : Int)), some (mI ((t : Nat) : Int)), v5] [] ((pgS sh 3 1280), σ2, kk + 1280)) (fun r S' => r = some (mR sh.1) ∧ S'.1 = pgS sh 3 1280 ∧ LI S' a ∧ (∀ b, 124 ≤ b → b ≠ sh.1 → S'.2.1.1 b = σ.1 b ∧ S'.2.1.2 b = σ.2 b) ∧ S'.2.1.2 sh.1 = alR a (2 ^ a.1.1) 0 0 ∧ S'.2.2 = kk + 1280)) (by
      intro σ2 v5 hp
      replace hp : LI (pgS sh 3 1280, σ2, kk + 1280) a ∧ σ2.2 sh.1 = alR a f (2 ^ a.1.1) 0 ∧ (∀ b, 124 ≤ b → b ≠ sh.1 → σ2.1 b = σ.1 b ∧ σ2.2 b = σ.2 b) := hp
      show PE (pv (d + 5) 167 18 [some (mR (0)), some (mI ((a.1.1 : Nat) : Int)), some (mR ((sh.1))), some (mI ((f : Nat) : Int)), some (mI (((2 ^ a.1.1) : Nat) : Int)), v5] [] ((pgS sh 3 1280), σ2, kk + 1280)) (fun r S' => r = some (mR sh.1) ∧ S'.1 = pgS sh 3 1280 ∧ LI S' a ∧ (∀ b, 124 ≤ b → b ≠ sh.1 → S'.2.1.1 b = σ.1 b ∧ S'.2.1.2 b = σ.2 b) ∧ S'.2.1.2 sh.1 = alR a (2 ^ a.1.1) 0 0 ∧ S'.2.2 = kk + 1280)
      rw [e167_18]
      simp (disch := first | assumption | omega | (simp (disch := omega) only [wN, w0, w1]; omega)) only [e167_0, e167_5, e167_6, e167_7, e167_9, e167_10, e167_11, e167_12, e167_15, e167_16, e167_20, e167_21, e167_22, e167_23, e167_26, e167_27, e167_31, e167_32, e167_35, e167_36, e167_37, e167_39, e167_40, e167_41, e167_43, e167_44, e167_45, e167_47, e167_48, e167_49, e167_50, e167_52, e167_54, e167_57, e167_58, e167_61, e167_64, e167_67, e167_70, e167_73, e167_76, e167_3, e167_77, kl_I, kl_R, kl_N, kl_L, oSm, oNn, Option.bind_some, wN, if_pos, if_neg, nS, tN, t0, w0, w1, w2, w3, w4, w5, wm1, upA_ne, upA_same, if_true, if_false, Bool.false_eq_true, xshl_1]
      exact ihF σ2 _ _ ⟨hp.1, by rw [hp.2.1, alR_f], hp.2.2⟩) (fun t hi ih => by
      replace ih : ∀ (σ2 : Mem) (v5 : Option MV), (LI (pgS sh 3 1280, σ2, kk + 1280) a ∧ σ2.2 sh.1 = alR a f (t + 1) 0 ∧ (∀ b, 124 ≤ b → b ≠ sh.1 → σ2.1 b = σ.1 b ∧ σ2.2 b = σ.2 b)) → PE (pv (d + 5) 167 18 [some (mR (0)), some (mI ((a.1.1 : Nat) : Int)), some (mR ((sh.1))), some (mI ((f : Nat) : Int)), some (mI (((t + 1) : Nat) : Int)), v5] [] ((pgS sh 3 1280), σ2, kk + 1280)) (fun r S' => r = some (mR sh.1) ∧ S'.1 = pgS sh 3 1280 ∧ LI S' a ∧ (∀ b, 124 ≤ b → b ≠ sh.1 → S'.2.1.1 b = σ.1 b ∧ S'.2.1.2 b = σ.2 b) ∧ S'.2.1.2 sh.1 = alR a (2 ^ a.1.1) 0 0 ∧ S'.2.2 = kk + 1280) := ih
      intro σ2 v5 hp
      replace hp : LI (pgS sh 3 1280, σ2, kk + 1280) a ∧ σ2.2 sh.1 = alR a f t 0 ∧ (∀ b, 124 ≤ b → b ≠ sh.1 → σ2.1 b = σ.1 b ∧ σ2.2 b = σ.2 b) := hp
      show PE (pv (d + 5) 167 18 [some (mR (0)), some (mI ((a.1.1 : Nat) : Int)), some (mR ((sh.1))), some (mI ((f : Nat) : Int)), some (mI ((t : Nat) : Int)), v5] [] ((pgS sh 3 1280), σ2, kk + 1280)) (fun r S' => r = some (mR sh.1) ∧ S'.1 = pgS sh 3 1280 ∧ LI S' a ∧ (∀ b, 124 ≤ b → b ≠ sh.1 → S'.2.1.1 b = σ.1 b ∧ S'.2.1.2 b = σ.2 b) ∧ S'.2.1.2 sh.1 = alR a (2 ^ a.1.1) 0 0 ∧ S'.2.2 = kk + 1280)
      have ihT := ih
      have ht := hi
      have K := for_P (5) (fun k => ∀ (σ3 : Mem), (LI (pgS sh 3 1280, σ3, kk + 1280) a ∧ σ3.2 sh.1 = alR a f t k ∧ (∀ b, 124 ≤ b → b ≠ sh.1 → σ3.1 b = σ.1 b ∧ σ3.2 b = σ.2 b)) → PE (pv (d + 5) 167 29 [some (mR (0)), some (mI ((a.1.1 : Nat) : Int)), some (mR ((sh.1))), some (mI ((f : Nat) : Int)), some (mI ((t : Nat) : Int)), some (mI ((k : Nat) : Int))] [] ((pgS sh 3 1280), σ3, kk + 1280)) (fun r S' => r = some (mR sh.1) ∧ S'.1 = pgS sh 3 1280 ∧ LI S' a ∧ (∀ b, 124 ≤ b → b ≠ sh.1 → S'.2.1.1 b = σ.1 b ∧ S'.2.1.2 b = σ.2 b) ∧ S'.2.1.2 sh.1 = alR a (2 ^ a.1.1) 0 0 ∧ S'.2.2 = kk + 1280)) (by
        intro σ3  hp
        replace hp : LI (pgS sh 3 1280, σ3, kk + 1280) a ∧ σ3.2 sh.1 = alR a f t (5) ∧ (∀ b, 124 ≤ b → b ≠ sh.1 → σ3.1 b = σ.1 b ∧ σ3.2 b = σ.2 b) := hp
        show PE (pv (d + 5) 167 29 [some (mR (0)), some (mI ((a.1.1 : Nat) : Int)), some (mR ((sh.1))), some (mI ((f : Nat) : Int)), some (mI ((t : Nat) : Int)), some (mI (((5) : Nat) : Int))] [] ((pgS sh 3 1280), σ3, kk + 1280)) (fun r S' => r = some (mR sh.1) ∧ S'.1 = pgS sh 3 1280 ∧ LI S' a ∧ (∀ b, 124 ≤ b → b ≠ sh.1 → S'.2.1.1 b = σ.1 b ∧ S'.2.1.2 b = σ.2 b) ∧ S'.2.1.2 sh.1 = alR a (2 ^ a.1.1) 0 0 ∧ S'.2.2 = kk + 1280)
        rw [e167_29]
        simp (disch := first | assumption | omega | (simp (disch := omega) only [wN, w0, w1]; omega)) only [e167_0, e167_5, e167_6, e167_7, e167_9, e167_10, e167_11, e167_12, e167_15, e167_16, e167_20, e167_21, e167_22, e167_23, e167_26, e167_27, e167_31, e167_32, e167_35, e167_36, e167_37, e167_39, e167_40, e167_41, e167_43, e167_44, e167_45, e167_47, e167_48, e167_49, e167_50, e167_52, e167_54, e167_57, e167_58, e167_61, e167_64, e167_67, e167_70, e167_73, e167_76, e167_3, e167_77, kl_I, kl_R, kl_N, kl_L, oSm, oNn, Option.bind_some, wN, if_pos, if_neg, nS, tN, t0, w0, w1, w2, w3, w4, w5, wm1, upA_ne, upA_same, if_true, if_false, Bool.false_eq_true]
        exact ihT σ3 _ ⟨hp.1, by rw [hp.2.1, alR_t], hp.2.2⟩) (fun k hi ih => by
        replace ih : ∀ (σ3 : Mem), (LI (pgS sh 3 1280, σ3, kk + 1280) a ∧ σ3.2 sh.1 = alR a f t (k + 1) ∧ (∀ b, 124 ≤ b → b ≠ sh.1 → σ3.1 b = σ.1 b ∧ σ3.2 b = σ.2 b)) → PE (pv (d + 5) 167 29 [some (mR (0)), some (mI ((a.1.1 : Nat) : Int)), some (mR ((sh.1))), some (mI ((f : Nat) : Int)), some (mI ((t : Nat) : Int)), some (mI (((k + 1) : Nat) : Int))] [] ((pgS sh 3 1280), σ3, kk + 1280)) (fun r S' => r = some (mR sh.1) ∧ S'.1 = pgS sh 3 1280 ∧ LI S' a ∧ (∀ b, 124 ≤ b → b ≠ sh.1 → S'.2.1.1 b = σ.1 b ∧ S'.2.1.2 b = σ.2 b) ∧ S'.2.1.2 sh.1 = alR a (2 ^ a.1.1) 0 0 ∧ S'.2.2 = kk + 1280) := ih
        intro σ3  hp
        replace hp : LI (pgS sh 3 1280, σ3, kk + 1280) a ∧ σ3.2 sh.1 = alR a f t k ∧ (∀ b, 124 ≤ b → b ≠ sh.1 → σ3.1 b = σ.1 b ∧ σ3.2 b = σ.2 b) := hp
        show PE (pv (d + 5) 167 29 [some (mR (0)), some (mI ((a.1.1 : Nat) : Int)), some (mR ((sh.1))), some (mI ((f : Nat) : Int)), some (mI ((t : Nat) : Int)), some (mI ((k : Nat) : Int))] [] ((pgS sh 3 1280), σ3, kk + 1280)) (fun r S' => r = some (mR sh.1) ∧ S'.1 = pgS sh 3 1280 ∧ LI S' a ∧ (∀ b, 124 ≤ b → b ≠ sh.1 → S'.2.1.1 b = σ.1 b ∧ S'.2.1.2 b = σ.2 b) ∧ S'.2.1.2 sh.1 = alR a (2 ^ a.1.1) 0 0 ∧ S'.2.2 = kk + 1280)
        have ei : (5 : Int) * (16 * (f : Int) + (t : Int)) + (k : Int) = ((5 * (16 * f + t) + k : Nat) : Int) := by omega
        have X := X132 (d := d) (z := (f : Int)) (w := (t : Int)) (v := (k : Int)) hp.1.1 hp.1.2.1 (i32N (by omega)) (i32N (by omega)) (i32N (by omega))
        obtain ⟨σ4, x1, x2, x3⟩ := cX (as := [mR 0, mI (f : Int), mI (t : Int), mI (k : Int)]) hp.1 (okA_of (zs := [(f : Int), (t : Int), (k : Int)])) X
        replace x1 : run (pgS sh 3 1280) (d + 4) 132 [mR 0, mI (f : Int), mI (t : Int), mI (k : Int)] σ3 = _ := x1
        rw [e167_29]
        simp (disch := first | assumption | omega | (simp (disch := omega) only [wN, w0, w1]; omega)) only [e167_0, e167_5, e167_6, e167_7, e167_9, e167_10, e167_11, e167_12, e167_15, e167_16, e167_20, e167_21, e167_22, e167_23, e167_26, e167_27, e167_31, e167_32, e167_35, e167_36, e167_37, e167_39, e167_40, e167_41, e167_43, e167_44, e167_45, e167_47, e167_48, e167_49, e167_50, e167_52, e167_54, e167_57, e167_58, e167_61, e167_64, e167_67, e167_70, e167_73, e167_76, e167_3, e167_77, kl_I, kl_R, kl_N, kl_L, oSm, oNn, Option.bind_some, wN, if_pos, if_neg, nS, tN, t0, w0, w1, w2, w3, w4, w5, wm1, upA_ne, upA_same, if_true, if_false, Bool.false_eq_true, x1, ei, l9]
        refine ih _ ⟨x2.up2, ?_, fun b b1 b2 => ⟨by rw [(x3 b b1).1]; exact (hp.2.2 b b1 b2).1, ?_⟩⟩
        · show upA _ _ _ _ = _
          rw [upA_same, (x3 sh.1 hn0).2, hp.2.1, alR_k ht (by omega) hi]
        · show upA _ _ _ _ = _
          rw [upA_ne b2, (x3 b b1).2]; exact (hp.2.2 b b1 b2).2) 0 (Nat.zero_le _)
      rw [e167_18]
      simp (disch := first | assumption | omega | (simp (disch := omega) only [wN, w0, w1]; omega)) only [e167_0, e167_5, e167_6, e167_7, e167_9, e167_10, e167_11, e167_12, e167_15, e167_16, e167_20, e167_21, e167_22, e167_23, e167_26, e167_27, e167_31, e167_32, e167_35, e167_36, e167_37, e167_39, e167_40, e167_41, e167_43, e167_44, e167_45, e167_47, e167_48, e167_49, e167_50, e167_52, e167_54, e167_57, e167_58, e167_61, e167_64, e167_67, e167_70, e167_73, e167_76, e167_3, e167_77, kl_I, kl_R, kl_N, kl_L, oSm, oNn, Option.bind_some, wN, if_pos, if_neg, nS, tN, t0, w0, w1, w2, w3, w4, w5, wm1, upA_ne, upA_same, if_true, if_false, Bool.false_eq_true, xshl_1]
      exact K σ2 hp) 0 (Nat.zero_le _)
    rw [e167_8]
    simp (disch := first | assumption | omega | (simp (disch := omega) only [wN, w0, w1]; omega)) only [e167_0, e167_5, e167_6, e167_7, e167_9, e167_10, e167_11, e167_12, e167_15, e167_16, e167_20, e167_21, e167_22, e167_23, e167_26, e167_27, e167_31, e167_32, e167_35, e167_36, e167_37, e167_39, e167_40, e167_41, e167_43, e167_44, e167_45, e167_47, e167_48, e167_49, e167_50, e167_52, e167_54, e167_57, e167_58, e167_61, e167_64, e167_67, e167_70, e167_73, e167_76, e167_3, e167_77, kl_I, kl_R, kl_N, kl_L, oSm, oNn, Option.bind_some, wN, if_pos, if_neg, nS, tN, t0, w0, w1, w2, w3, w4, w5, wm1, upA_ne, upA_same, if_true, if_false, Bool.false_eq_true, xshl_1]
    exact T σ1 _ hp) 0 (Nat.zero_le _)
  simp (disch := first | assumption | omega | (simp (disch := omega) only [wN, w0, w1]; omega)) only [e167_0, e167_5, e167_6, e167_7, e167_9, e167_10, e167_11, e167_12, e167_15, e167_16, e167_20, e167_21, e167_22, e167_23, e167_26, e167_27, e167_31, e167_32, e167_35, e167_36, e167_37, e167_39, e167_40, e167_41, e167_43, e167_44, e167_45, e167_47, e167_48, e167_49, e167_50, e167_52, e167_54, e167_57, e167_58, e167_61, e167_64, e167_67, e167_70, e167_73, e167_76, e167_3, e167_77, kl_I, kl_R, kl_N, kl_L, oSm, oNn, Option.bind_some, wN, if_pos, if_neg, nS, tN, t0, w0, w1, w2, w3, w4, w5, wm1, upA_ne, upA_same, if_true, if_false, Bool.false_eq_true, q167, z1280]
  refine F _ _ _ ⟨(hI.new hN).2, ?_, fun b b1 b2 => ⟨rfl, upA_ne b2⟩⟩
  show upA _ _ _ _ = _
  rw [upA_same]
  exact alR_0
/-- two rows alike below 1280 -/
def smL (f g : Nat → Int) (i : Nat) : Bool := fa (fun j => decide (wl (f j) = wl (g j))) i 0
theorem fa_up {f : Nat → Bool} (i : Nat) : fa f (i + 1) 0 = (fa f i 0 && f i) := by
  rw [Bool.eq_iff_iff, Bool.and_eq_true, fa_iff, fa_iff]
  constructor
  · intro h
    exact ⟨fun j h1 h2 => h j h1 (by omega), h i (by omega) (by omega)⟩
  · rintro ⟨h1, h2⟩ j h3 h4
    by_cases e : j = i
    · subst e; exact h2
    · exact h1 j h3 (by omega)
theorem B168 {b b' : Nat} (hk : skd sh b = 3) (hl : sln sh b = 1280) (hk' : skd sh b' = 3) (hl' : sln sh b' = 1280) : prun d 168 [mR b, mR b'] (sh, σ, kk) = some (some (mI (bi (smL (σ.2 b) (σ.2 b') 1280))), (sh, σ, kk)) := by
  have F := for_up (fun i => pv d 168 4 [some (mR b), some (mR b'), some (mI (bi (smL (σ.2 b) (σ.2 b') i))), some (mI (i : Int))] [] (sh, σ, kk)) 1280 (fun i hi => by
    show pv d 168 4 [some (mR b), some (mR b'), some (mI (bi (smL (σ.2 b) (σ.2 b') i))), some (mI (i : Int))] [] (sh, σ, kk) = pv d 168 4 [some (mR b), some (mR b'), some (mI (bi (smL (σ.2 b) (σ.2 b') (i + 1)))), some (mI ((i + 1 : Nat) : Int))] [] (sh, σ, kk)
    have w1280 : wi (1280 : Int) = 1280 := rfl
    rw [e168_4]
    by_cases h : smL (σ.2 b) (σ.2 b') i = true
    · have eb : bi (smL (σ.2 b) (σ.2 b') i) = 1 := by unfold bi; rw [if_pos h]
      by_cases h2 : wl (σ.2 b i) = wl (σ.2 b' i)
      · have e2 : smL (σ.2 b) (σ.2 b') (i + 1) = true := by
          unfold smL at h ⊢
          rw [fa_up, h, decide_eq_true h2]; rfl
        have e3 : bi (smL (σ.2 b) (σ.2 b') (i + 1)) = 1 := by unfold bi; rw [if_pos e2]
        have el : lcmp' (σ.2 b i) (σ.2 b' i) = 0 := by unfold lcmp'; rw [if_neg (by omega), if_pos h2]
        rw [eb, e3]
        simp (disch := first | assumption | omega | (simp (disch := omega) only [wN, w0, w1]; omega)) only [e168_0, e168_1, e168_2, e168_3, e168_5, e168_8, e168_11, e168_12, e168_15, e168_16, e168_17, e168_18, e168_19, e168_20, e168_21, e168_22, e168_25, e168_26, e168_29, e168_30, e168_31, e168_34, e168_37, e168_38, kl_I, kl_R, kl_N, kl_L, oSm, oNn, Option.bind_some, wN, if_pos, if_neg, nS, tN, t0, w0, w1, w2, w3, w4, w5, wm1, upA_ne, upA_same, if_true, if_false, Bool.false_eq_true, w1280, hl, hl', el]
      · have e2 : ¬ smL (σ.2 b) (σ.2 b') (i + 1) = true := by
          unfold smL
          rw [fa_up, decide_eq_false h2, Bool.and_false]; simp
        have e3 : bi (smL (σ.2 b) (σ.2 b') (i + 1)) = 0 := by unfold bi; rw [if_neg e2]
        have el : ¬ wi (lcmp' (σ.2 b i) (σ.2 b' i)) = 0 := by
          unfold lcmp'
          by_cases h3 : wl (σ.2 b i) < wl (σ.2 b' i)
          · rw [if_pos h3]; decide
          · rw [if_neg h3, if_neg h2]; decide
        rw [eb, e3]
        simp (disch := first | assumption | omega | (simp (disch := omega) only [wN, w0, w1]; omega)) only [e168_0, e168_1, e168_2, e168_3, e168_5, e168_8, e168_11, e168_12, e168_15, e168_16, e168_17, e168_18, e168_19, e168_20, e168_21, e168_22, e168_25, e168_26, e168_29, e168_30, e168_31, e168_34, e168_37, e168_38, kl_I, kl_R, kl_N, kl_L, oSm, oNn, Option.bind_some, wN, if_pos, if_neg, nS, tN, t0, w0, w1, w2, w3, w4, w5, wm1, upA_ne, upA_same, if_true, if_false, Bool.false_eq_true, w1280, hl, hl', el]
    · have eb : bi (smL (σ.2 b) (σ.2 b') i) = 0 := by unfold bi; rw [if_neg h]
      have e2 : ¬ smL (σ.2 b) (σ.2 b') (i + 1) = true := by
        unfold smL at h ⊢
        rw [fa_up, Bool.and_eq_true]
        exact fun z => h z.1
      have e3 : bi (smL (σ.2 b) (σ.2 b') (i + 1)) = 0 := by unfold bi; rw [if_neg e2]
      rw [eb, e3]
      simp (disch := first | assumption | omega | (simp (disch := omega) only [wN, w0, w1]; omega)) only [e168_0, e168_1, e168_2, e168_3, e168_5, e168_8, e168_11, e168_12, e168_15, e168_16, e168_17, e168_18, e168_19, e168_20, e168_21, e168_22, e168_25, e168_26, e168_29, e168_30, e168_31, e168_34, e168_37, e168_38, kl_I, kl_R, kl_N, kl_L, oSm, oNn, Option.bind_some, wN, if_pos, if_neg, nS, tN, t0, w0, w1, w2, w3, w4, w5, wm1, upA_ne, upA_same, if_true, if_false, Bool.false_eq_true, w1280, hl, hl']
    ) 0 (Nat.zero_le _)
  have e0 : bi (smL (σ.2 b) (σ.2 b') 0) = 1 := rfl
  have w1280 : wi (1280 : Int) = 1280 := rfl
  simp (disch := first | assumption | omega | (simp (disch := omega) only [wN, w0, w1]; omega)) only [e168_0, e168_1, e168_2, e168_3, e168_5, e168_8, e168_11, e168_12, e168_15, e168_16, e168_17, e168_18, e168_19, e168_20, e168_21, e168_22, e168_25, e168_26, e168_29, e168_30, e168_31, e168_34, e168_37, e168_38, kl_I, kl_R, kl_N, kl_L, oSm, oNn, Option.bind_some, wN, if_pos, if_neg, nS, tN, t0, w0, w1, w2, w3, w4, w5, wm1, upA_ne, upA_same, if_true, if_false, Bool.false_eq_true, q168]
  refine (Eq.trans ?_ F).trans ?_
  · rfl
  · rw [e168_4]
    have h01 := b01 (smL (σ.2 b) (σ.2 b') 1280 = true)
    simp (disch := first | assumption | omega | (simp (disch := omega) only [wN, w0, w1]; omega)) only [e168_0, e168_1, e168_2, e168_3, e168_5, e168_8, e168_11, e168_12, e168_15, e168_16, e168_17, e168_18, e168_19, e168_20, e168_21, e168_22, e168_25, e168_26, e168_29, e168_30, e168_31, e168_34, e168_37, e168_38, kl_I, kl_R, kl_N, kl_L, oSm, oNn, Option.bind_some, wN, if_pos, if_neg, nS, tN, t0, w0, w1, w2, w3, w4, w5, wm1, upA_ne, upA_same, if_true, if_false, Bool.false_eq_true, w1280]
end PE2

