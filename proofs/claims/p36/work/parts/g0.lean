/-! ===== the law: a gate drawn ===== -/
section PG0
variable {ρ n : Nat} {d : Nat}
/-- a drawn gate's row -/
def dRw (f : Nat → Int) (q : Gt) : Prop := f 0 = (q.1 : Int) ∧ f 1 = (q.2.1 : Int) ∧ f 2 = (if 3 ≤ q.1 then q.2.2 else -1) ∧ f 3 = (if q.1 = 0 then q.2.2 else 0)
theorem nx {sh : Shp} {kk : Nat} {σ : Mem} {a : AX} (hI : LI (sh, σ, kk) a) (r9 : 124 ≤ ρ) (rm : ρ < 1000000) (kρ : skd sh ρ = 0) (lρ : sln sh ρ = 1) (wρ : ρ < sh.1) : ∃ (x : Nat) (τ : Mem), x < 8388608 ∧ (∀ d kk, prun d 164 [mR ρ] (sh, σ, kk) = some (some (mI (x : Int)), (sh, τ, kk))) ∧ LI (sh, τ, kk) a ∧ ∀ b, b ≠ ρ → τ.1 b = σ.1 b ∧ τ.2 b = σ.2 b := by
  obtain ⟨x, ex, xl⟩ := zA_r (σ.1 ρ 0)
  refine ⟨x, (upA σ.1 ρ (up1 (σ.1 ρ) 0 (zN (σ.1 ρ 0))), σ.2), xl, fun d kk => ?_, hI.up1 r9 rm, fun b hb => ⟨upA_ne hb, rfl⟩⟩
  rw [← ex]; exact B164 kρ lρ wρ
theorem B165 {sh : Shp} {kk : Nat} {σ : Mem} {a : AX} (hI : LI (sh, σ, kk) a) (n1 : 1 ≤ n) (n4 : n ≤ 4) (r9 : 124 ≤ ρ) (wρ : ρ < sh.1) (kρ : skd sh ρ = 0) (lρ : sln sh ρ = 1) (hN : sh.1 < 1000000) : PE (prun (d + 1) 165 [mR ρ, mI (n : Int), mI 6] (sh, σ, kk)) (fun r S' => r = some (mR sh.1) ∧ S'.1 = pgS sh 0 4 ∧ S'.2.2 = kk + 4 ∧ LI S' a ∧ (∃ q : Gt, vG n q ∧ dRw (S'.2.1.1 sh.1) q) ∧ ∀ b, 124 ≤ b → b ≠ ρ → b ≠ sh.1 → S'.2.1.1 b = σ.1 b ∧ S'.2.1.2 b = σ.2 b) := by
  have hn9 : 124 ≤ sh.1 := hI.n.1
  obtain ⟨x, τ, xl, qx, Lx, fx⟩ := nx hI r9 (by omega) kρ lρ wρ
  obtain ⟨y, υ, yl, qy, Ly, fy⟩ := nx Lx r9 (by omega) kρ lρ wρ
  have r1 : ∀ m : Nat, m < 7 → xrem (x : Int) (m : Int) = ((x % m : Nat) : Int) := fun m hm => xrem_nn (by omega) (by omega)
  have r2 := xrem_nn (a := y) (b := n) (by omega) (by omega)
  have hA := Nat.mod_lt y (show n > 0 by omega)
  have z4 : (wi 4).toNat = 4 := rfl
  have l4 : 0 ≤ wi 4 := by decide
  have u4 : wi 4 ≤ 4096 := by decide
  have w4s : sh.1 < (pgS sh 0 4).1 := pgS_w
  have k9 : skd (pgS sh 0 4) sh.1 = 0 := pgS_k
  have l9 : sln (pgS sh 0 4) sh.1 = 4 := pgS_l
  obtain ⟨k, hk, hk5, hkn⟩ : ∃ k : Nat, (xrem (x : Int) (if n = 1 then 3 else 6)) = (k : Int) ∧ k < 6 ∧ (n = 1 → k < 3) := by
    by_cases e : n = 1
    · rw [if_pos e]
      have := Nat.mod_lt x (show 3 > 0 by omega)
      exact ⟨x % 3, r1 3 (by omega), by omega, fun _ => this⟩
    · rw [if_neg e]
      have := Nat.mod_lt x (show 6 > 0 by omega)
      exact ⟨x % 6, r1 6 (by omega), this, fun h => absurd h e⟩
  generalize y % n = A at *
  -- up to the row
  have E : prun (d + 1) 165 [mR ρ, mI (n : Int), mI 6] (sh, σ, kk) = pv (d + 1) 165 27 [some (mR (ρ)), some (mI ((n : Nat) : Int)), some (mI (6)), some (mI ((k : Nat) : Int)), some (mI ((A : Nat) : Int)), none] [mR sh.1] (pgS sh 0 4, pgI sh υ, kk + 4) := by
    rw [q165]
    have n3 : ¬ wi 3 = 0 := by decide
    have n6 : ¬ wi 6 = 0 := by decide
    simp (disch := first | assumption | omega | (simp (disch := omega) only [wN, w0, w1]; omega)) only [e165_0, e165_4, e165_5, e165_6, e165_9, e165_10, e165_13, e165_14, e165_15, e165_16, e165_17, e165_20, e165_21, e165_22, e165_24, e165_28, e165_29, e165_30, e165_31I, e165_31R, e165_32, e165_33, e165_35, e165_36I, e165_36R, e165_37, e165_38, e165_39, e165_40, e165_43, e165_45, e165_46, e165_47, e165_48, e165_51, e165_52, e165_53, e165_54, e165_55, e165_56, e165_57, e165_58, e165_61, e165_62, e165_63I, e165_63R, e165_64, e165_65, e165_66, e165_69, e165_70, e165_73, e165_75, e165_76, e165_79, e165_80, e165_81, e165_83, e165_25, e165_85, kl_I, kl_R, kl_N, kl_L, oSm, oNn, Option.bind_some, wN, if_pos, if_neg, nS, tN, t0, w0, w1, w2, w3, w4, w5, wm1, upA_ne, upA_same, if_true, if_false, Bool.false_eq_true]
    rw [e165_1 (by simp [pwk, pok]; omega), qx]
    by_cases e : n = 1
    · rw [if_pos e] at hk
      simp (disch := first | assumption | omega | (simp (disch := omega) only [wN, w0, w1]; omega)) only [e165_0, e165_1, e165_4, e165_5, e165_6, e165_9, e165_10, e165_13, e165_14, e165_15, e165_16, e165_20, e165_21, e165_22, e165_24, e165_28, e165_29, e165_30, e165_31I, e165_31R, e165_32, e165_33, e165_35, e165_36I, e165_36R, e165_37, e165_38, e165_39, e165_40, e165_43, e165_45, e165_46, e165_47, e165_48, e165_51, e165_52, e165_53, e165_54, e165_55, e165_56, e165_57, e165_58, e165_61, e165_62, e165_63I, e165_63R, e165_64, e165_65, e165_66, e165_69, e165_70, e165_73, e165_75, e165_76, e165_79, e165_80, e165_81, e165_83, e165_25, e165_85, kl_I, kl_R, kl_N, kl_L, oSm, oNn, Option.bind_some, wN, if_pos, if_neg, nS, tN, t0, w0, w1, w2, w3, w4, w5, wm1, upA_ne, upA_same, if_true, if_false, Bool.false_eq_true, hk]
      rw [e165_17 (by simp [pwk, pok]; omega), qy]
      simp (disch := first | assumption | omega | (simp (disch := omega) only [wN, w0, w1]; omega)) only [e165_0, e165_1, e165_4, e165_5, e165_6, e165_9, e165_10, e165_13, e165_14, e165_15, e165_16, e165_17, e165_20, e165_21, e165_22, e165_24, e165_28, e165_29, e165_30, e165_31I, e165_31R, e165_32, e165_33, e165_35, e165_36I, e165_36R, e165_37, e165_38, e165_39, e165_40, e165_43, e165_45, e165_46, e165_47, e165_48, e165_51, e165_52, e165_53, e165_54, e165_55, e165_56, e165_57, e165_58, e165_61, e165_62, e165_63I, e165_63R, e165_64, e165_65, e165_66, e165_69, e165_70, e165_73, e165_75, e165_76, e165_79, e165_80, e165_81, e165_83, e165_85, kl_I, kl_R, kl_N, kl_L, oSm, oNn, Option.bind_some, wN, if_pos, if_neg, nS, tN, t0, w0, w1, w2, w3, w4, w5, wm1, upA_ne, upA_same, if_true, if_false, Bool.false_eq_true, r2]
      rw [e165_25 l4 u4 hN (by simp [pwk, pok]; omega), z4]
    · rw [if_neg e] at hk
      simp (disch := first | assumption | omega | (simp (disch := omega) only [wN, w0, w1]; omega)) only [e165_0, e165_1, e165_4, e165_5, e165_6, e165_9, e165_10, e165_13, e165_14, e165_15, e165_16, e165_20, e165_21, e165_22, e165_24, e165_28, e165_29, e165_30, e165_31I, e165_31R, e165_32, e165_33, e165_35, e165_36I, e165_36R, e165_37, e165_38, e165_39, e165_40, e165_43, e165_45, e165_46, e165_47, e165_48, e165_51, e165_52, e165_53, e165_54, e165_55, e165_56, e165_57, e165_58, e165_61, e165_62, e165_63I, e165_63R, e165_64, e165_65, e165_66, e165_69, e165_70, e165_73, e165_75, e165_76, e165_79, e165_80, e165_81, e165_83, e165_25, e165_85, kl_I, kl_R, kl_N, kl_L, oSm, oNn, Option.bind_some, wN, if_pos, if_neg, nS, tN, t0, w0, w1, w2, w3, w4, w5, wm1, upA_ne, upA_same, if_true, if_false, Bool.false_eq_true, hk]
      rw [e165_17 (by simp [pwk, pok]; omega), qy]
      simp (disch := first | assumption | omega | (simp (disch := omega) only [wN, w0, w1]; omega)) only [e165_0, e165_1, e165_4, e165_5, e165_6, e165_9, e165_10, e165_13, e165_14, e165_15, e165_16, e165_17, e165_20, e165_21, e165_22, e165_24, e165_28, e165_29, e165_30, e165_31I, e165_31R, e165_32, e165_33, e165_35, e165_36I, e165_36R, e165_37, e165_38, e165_39, e165_40, e165_43, e165_45, e165_46, e165_47, e165_48, e165_51, e165_52, e165_53, e165_54, e165_55, e165_56, e165_57, e165_58, e165_61, e165_62, e165_63I, e165_63R, e165_64, e165_65, e165_66, e165_69, e165_70, e165_73, e165_75, e165_76, e165_79, e165_80, e165_81, e165_83, e165_85, kl_I, kl_R, kl_N, kl_L, oSm, oNn, Option.bind_some, wN, if_pos, if_neg, nS, tN, t0, w0, w1, w2, w3, w4, w5, wm1, upA_ne, upA_same, if_true, if_false, Bool.false_eq_true, r2]
      rw [e165_25 l4 u4 hN (by simp [pwk, pok]; omega), z4]
  have Lw : LI (pgS sh 0 4, pgI sh υ, kk + 4) a := (Ly.new hN).1
  have fw : ∀ b, b ≠ sh.1 → (pgI sh υ).1 b = υ.1 b ∧ (pgI sh υ).2 b = υ.2 b := fun b hb => ⟨upA_ne hb, rfl⟩
  rw [E]
  clear E
  generalize pgI sh υ = ω at *
  have hρ1 : ρ < sh.1 + 1 := by omega
  have tt1 : (1 : Int).toNat = 1 := rfl
  have tt2 : (2 : Int).toNat = 2 := rfl
  have tt3 : (3 : Int).toNat = 3 := rfl
  have L2 : LI (pgS sh 0 4, (upA (upA ω.1 sh.1 (up1 (ω.1 sh.1) 0 (k : Int))) sh.1 (up1 (up1 (ω.1 sh.1) 0 (k : Int)) 1 (A : Int)), ω.2), kk + 4) a := LI.up1 (σ := (upA ω.1 sh.1 (up1 (ω.1 sh.1) 0 (k : Int)), ω.2)) (Lw.up1 hn9 hN) hn9 hN
  simp (disch := first | assumption | omega | (simp (disch := omega) only [wN, w0, w1]; omega)) only [e165_0, e165_1, e165_4, e165_5, e165_6, e165_9, e165_10, e165_13, e165_14, e165_15, e165_16, e165_17, e165_20, e165_21, e165_22, e165_24, e165_27I, e165_27R, e165_28, e165_29, e165_30, e165_31I, e165_31R, e165_32, e165_33, e165_35, e165_37, e165_38, e165_39, e165_40, e165_43, e165_45, e165_46, e165_47, e165_48, e165_51, e165_52, e165_53, e165_54, e165_55, e165_56, e165_57, e165_58, e165_61, e165_62, e165_63I, e165_63R, e165_64, e165_65, e165_66, e165_69, e165_70, e165_73, e165_75, e165_76, e165_79, e165_80, e165_81, e165_83, e165_25, e165_85, kl_I, kl_R, kl_N, kl_L, oSm, oNn, Option.bind_some, wN, if_pos, if_neg, nS, tN, t0, w0, w1, w2, w3, w4, w5, wm1, upA_ne, upA_same, if_true, if_false, Bool.false_eq_true, l9, tt1]
  obtain ⟨ω2, e2⟩ : ∃ ω2 : Mem, ω2 = (upA (upA ω.1 sh.1 (up1 (ω.1 sh.1) 0 (k : Int))) sh.1 (up1 (up1 (ω.1 sh.1) 0 (k : Int)) 1 (A : Int)), ω.2) := ⟨_, rfl⟩
  have v0 : ω2.1 sh.1 0 = (k : Int) := by
    rw [e2]; show upA _ sh.1 _ sh.1 0 = _
    rw [upA_same]; rfl
  have v1 : ω2.1 sh.1 1 = (A : Int) := by
    rw [e2]; show upA _ sh.1 _ sh.1 1 = _
    rw [upA_same]; rfl
  have f2 : ∀ b, b ≠ sh.1 → ω2.1 b = ω.1 b ∧ ω2.2 b = ω.2 b := fun b hb => by
    rw [e2]
    refine ⟨?_, rfl⟩
    show upA (upA ω.1 sh.1 _) sh.1 _ b = _
    rw [upA_ne hb, upA_ne hb]
  rw [← e2] at L2 ⊢
  clear e2
  -- the third number
  have B3 : ∃ (ω3 : Mem) (v : Int), pv (d + 1) 165 36 [some (mR (ρ)), some (mI ((n : Nat) : Int)), some (mI (6)), some (mI ((k : Nat) : Int)), some (mI ((A : Nat) : Int)), none] [mR sh.1] (pgS sh 0 4, ω2, kk + 4) = pv (d + 1) 165 63 [some (mR (ρ)), some (mI ((n : Nat) : Int)), some (mI (6)), some (mI ((k : Nat) : Int)), some (mI ((A : Nat) : Int)), none] [mR sh.1] (pgS sh 0 4, ω3, kk + 4) ∧ LI (pgS sh 0 4, ω3, kk + 4) a ∧ ω3.1 sh.1 0 = (k : Int) ∧ ω3.1 sh.1 1 = (A : Int) ∧ ω3.1 sh.1 2 = v ∧ (k < 3 → v = -1) ∧ (3 ≤ k → 0 ≤ v ∧ v < n ∧ v ≠ (A : Int)) ∧ ∀ b, b ≠ ρ → b ≠ sh.1 → ω3.1 b = ω2.1 b ∧ ω3.2 b = ω2.2 b := by
    by_cases hk3 : k < 3
    · refine ⟨(upA ω2.1 sh.1 (up1 (ω2.1 sh.1) 2 (-1)), ω2.2), -1, ?_, L2.up1 hn9 hN, ?_, ?_, ?_, fun _ => rfl, fun h => by omega, fun b _ hb => ⟨upA_ne hb, rfl⟩⟩
      · simp (disch := first | assumption | omega | (simp (disch := omega) only [wN, w0, w1]; omega)) only [e165_0, e165_1, e165_4, e165_5, e165_6, e165_9, e165_10, e165_13, e165_14, e165_15, e165_16, e165_17, e165_20, e165_21, e165_22, e165_24, e165_27I, e165_27R, e165_28, e165_29, e165_30, e165_31I, e165_31R, e165_32, e165_33, e165_35, e165_36I, e165_36R, e165_37, e165_38, e165_39, e165_40, e165_45, e165_46, e165_47, e165_48, e165_51, e165_52, e165_53, e165_54, e165_55, e165_56, e165_57, e165_58, e165_61, e165_62, e165_64, e165_65, e165_66, e165_69, e165_70, e165_73, e165_75, e165_76, e165_79, e165_80, e165_81, e165_83, e165_25, e165_85, kl_I, kl_R, kl_N, kl_L, oSm, oNn, Option.bind_some, wN, if_pos, if_neg, nS, tN, t0, w0, w1, w2, w3, w4, w5, wm1, upA_ne, upA_same, if_true, if_false, Bool.false_eq_true, l9, tt2]
      · show upA _ _ _ sh.1 0 = _
        rw [upA_same]; exact v0
      · show upA _ _ _ sh.1 1 = _
        rw [upA_same]; exact v1
      · show upA _ _ _ sh.1 2 = _
        rw [upA_same]; rfl
    · obtain ⟨z, θ, zl, qz, Lz, fz⟩ := nx (ρ := ρ) L2 r9 (by omega) ((pgS_kn (by omega)).trans kρ) ((pgS_ln (by omega)).trans lρ) (by show ρ < sh.1 + 1; omega)
      have hn2 : 2 ≤ n := by
        rcases (show n = 1 ∨ 2 ≤ n by omega) with e | e
        · have := hkn e; omega
        · exact e
      have q2 := xrem_nn (a := z) (b := n - 1) (by omega) (by omega)
      have hR := Nat.mod_lt z (show n - 1 > 0 by omega)
      generalize z % (n - 1) = R at *
      have q3 := xrem_nn (a := A + 1 + R) (b := n) (by omega) (by omega)
      have hB := mod_2n (x := A + 1 + R) (n := n) (by omega)
      have hBn : (A + 1 + R) % n < n ∧ A ≠ (A + 1 + R) % n := by rw [hB]; split <;> omega
      generalize (A + 1 + R) % n = B at *
      clear hB
      have en : (n : Int) - 1 = ((n - 1 : Nat) : Int) := by omega
      have es : ((A + 1 : Nat) : Int) + (R : Int) = ((A + 1 + R : Nat) : Int) := by omega
      have hne : sh.1 ≠ ρ := by omega
      refine ⟨(upA θ.1 sh.1 (up1 (θ.1 sh.1) 2 (B : Int)), θ.2), (B : Int), ?_, Lz.up1 hn9 hN, ?_, ?_, ?_, fun h => by omega, fun h => by omega, fun b hr hb => ⟨?_, (fz b hr).2⟩⟩
      · simp (disch := first | assumption | omega | (simp (disch := omega) only [wN, w0, w1]; omega)) only [e165_0, e165_1, e165_4, e165_5, e165_6, e165_9, e165_10, e165_13, e165_14, e165_15, e165_16, e165_17, e165_20, e165_21, e165_22, e165_24, e165_27I, e165_27R, e165_28, e165_29, e165_30, e165_31I, e165_31R, e165_32, e165_33, e165_35, e165_36I, e165_36R, e165_37, e165_38, e165_39, e165_40, e165_43, e165_45, e165_46, e165_47, e165_51, e165_52, e165_53, e165_54, e165_55, e165_56, e165_57, e165_58, e165_61, e165_62, e165_64, e165_65, e165_66, e165_69, e165_70, e165_73, e165_75, e165_76, e165_79, e165_80, e165_81, e165_83, e165_25, e165_85, kl_I, kl_R, kl_N, kl_L, oSm, oNn, Option.bind_some, wN, if_pos, if_neg, nS, tN, t0, w0, w1, w2, w3, w4, w5, wm1, upA_ne, upA_same, if_true, if_false, Bool.false_eq_true]
        rw [e165_48 (by simp [pwk, pok, pgS, hρ1]), qz]
        simp (disch := first | assumption | omega | (simp (disch := omega) only [wN, w0, w1]; omega)) only [e165_0, e165_1, e165_4, e165_5, e165_6, e165_9, e165_10, e165_13, e165_14, e165_15, e165_16, e165_17, e165_20, e165_21, e165_22, e165_24, e165_27I, e165_27R, e165_28, e165_29, e165_30, e165_31I, e165_31R, e165_32, e165_33, e165_35, e165_36I, e165_36R, e165_37, e165_38, e165_39, e165_40, e165_43, e165_45, e165_46, e165_47, e165_48, e165_51, e165_52, e165_53, e165_54, e165_55, e165_56, e165_57, e165_58, e165_61, e165_62, e165_64, e165_65, e165_66, e165_69, e165_70, e165_73, e165_75, e165_76, e165_79, e165_80, e165_81, e165_83, e165_25, e165_85, kl_I, kl_R, kl_N, kl_L, oSm, oNn, Option.bind_some, wN, if_pos, if_neg, nS, tN, t0, w0, w1, w2, w3, w4, w5, wm1, upA_ne, upA_same, if_true, if_false, Bool.false_eq_true, en, q2, es, q3, l9, tt2]
      · show upA _ _ _ sh.1 0 = _
        rw [upA_same]; show θ.1 sh.1 0 = _
        rw [(fz sh.1 hne).1]; exact v0
      · show upA _ _ _ sh.1 1 = _
        rw [upA_same]; show θ.1 sh.1 1 = _
        rw [(fz sh.1 hne).1]; exact v1
      · show upA _ _ _ sh.1 2 = _
        rw [upA_same]; rfl
      · show upA _ _ _ b = _
        rw [upA_ne hb]; exact (fz b hr).1
  obtain ⟨ω3, v, e3, L3, a0, a1, a2, a3, a4, f3⟩ := B3
  rw [e3]
  clear e3
  have ff : ∀ b, b ≠ ρ → b ≠ sh.1 → ω3.1 b = σ.1 b ∧ ω3.2 b = σ.2 b := fun b h1 h2 => by
    have g3 := f3 b h1 h2
    have g2 := f2 b h2
    have gw := fw b h2
    have gy := fy b h1
    have gx := fx b h1
    exact ⟨((((g3.1.trans g2.1).trans gw.1).trans gy.1).trans gx.1), ((((g3.2.trans g2.2).trans gw.2).trans gy.2).trans gx.2)⟩
  by_cases hk0 : k = 0
  · subst hk0
    obtain ⟨z, θ, zl, qz, Lz, fz⟩ := nx (ρ := ρ) L3 r9 (by omega) ((pgS_kn (by omega)).trans kρ) ((pgS_ln (by omega)).trans lρ) (by show ρ < sh.1 + 1; omega)
    have r7 := xand_m7 (a := z) (by omega)
    have hK := Nat.mod_lt z (show 8 > 0 by omega)
    generalize z % 8 = K at *
    have hne : sh.1 ≠ ρ := by omega
    simp (disch := first | assumption | omega | (simp (disch := omega) only [wN, w0, w1]; omega)) only [e165_0, e165_1, e165_4, e165_5, e165_6, e165_9, e165_10, e165_13, e165_14, e165_15, e165_16, e165_17, e165_20, e165_21, e165_22, e165_24, e165_27I, e165_27R, e165_28, e165_29, e165_30, e165_31I, e165_31R, e165_32, e165_33, e165_35, e165_36I, e165_36R, e165_37, e165_38, e165_39, e165_40, e165_43, e165_45, e165_46, e165_47, e165_48, e165_51, e165_52, e165_53, e165_54, e165_55, e165_56, e165_57, e165_58, e165_61, e165_62, e165_63I, e165_63R, e165_64, e165_65, e165_66, e165_69, e165_73, e165_75, e165_76, e165_79, e165_80, e165_81, e165_83, e165_25, e165_85, kl_I, kl_R, kl_N, kl_L, oSm, oNn, Option.bind_some, wN, if_pos, if_neg, nS, tN, t0, w0, w1, w2, w3, w4, w5, wm1, upA_ne, upA_same, if_true, if_false, Bool.false_eq_true]
    rw [e165_70 (by simp [pwk, pok, pgS, hρ1]), qz]
    simp (disch := first | assumption | omega | (simp (disch := omega) only [wN, w0, w1]; omega)) only [e165_0, e165_1, e165_4, e165_5, e165_6, e165_9, e165_10, e165_13, e165_14, e165_15, e165_16, e165_17, e165_20, e165_21, e165_22, e165_24, e165_27I, e165_27R, e165_28, e165_29, e165_30, e165_31I, e165_31R, e165_32, e165_33, e165_35, e165_36I, e165_36R, e165_37, e165_38, e165_39, e165_40, e165_43, e165_45, e165_46, e165_47, e165_48, e165_51, e165_52, e165_53, e165_54, e165_55, e165_56, e165_57, e165_58, e165_61, e165_62, e165_63I, e165_63R, e165_64, e165_65, e165_66, e165_69, e165_70, e165_73, e165_75, e165_76, e165_79, e165_80, e165_81, e165_83, e165_25, e165_85, kl_I, kl_R, kl_N, kl_L, oSm, oNn, Option.bind_some, wN, if_pos, if_neg, nS, tN, t0, w0, w1, w2, w3, w4, w5, wm1, upA_ne, upA_same, if_true, if_false, Bool.false_eq_true, r7, l9, tt3]
    refine PE.of rfl ⟨rfl, rfl, rfl, Lz.up1 hn9 hN, ⟨(0, A, (K : Int)), ⟨show (0 : Nat) ≤ 5 by decide, hA, fun _ => ⟨Int.natCast_nonneg _, by show (K : Int) < 8; omega⟩, fun h => absurd (show (0 : Nat) = 1 ∨ (0 : Nat) = 2 from h) (by decide), fun h => absurd (show 3 ≤ 0 from h) (by decide)⟩, ?_, ?_, ?_, ?_⟩, fun b b1 b2 b3 => ⟨?_, (fz b b2).2.trans (ff b b2 b3).2⟩⟩
    · show upA _ _ _ sh.1 0 = _
      rw [upA_same]; show θ.1 sh.1 0 = _
      rw [(fz sh.1 hne).1]; exact a0
    · show upA _ _ _ sh.1 1 = _
      rw [upA_same]; show θ.1 sh.1 1 = _
      rw [(fz sh.1 hne).1]; exact a1
    · show upA _ _ _ sh.1 2 = _
      rw [upA_same]; show θ.1 sh.1 2 = _
      rw [(fz sh.1 hne).1, a2, a3 (by omega)]; rfl
    · show upA _ _ _ sh.1 3 = _
      rw [upA_same]; rfl
    · show upA _ _ _ b = _
      rw [upA_ne b3]; exact (fz b b2).1.trans (ff b b2 b3).1
  · simp (disch := first | assumption | omega | (simp (disch := omega) only [wN, w0, w1]; omega)) only [e165_0, e165_1, e165_4, e165_5, e165_6, e165_9, e165_10, e165_13, e165_14, e165_15, e165_16, e165_17, e165_20, e165_21, e165_22, e165_24, e165_27I, e165_27R, e165_28, e165_29, e165_30, e165_31I, e165_31R, e165_32, e165_33, e165_35, e165_36I, e165_36R, e165_37, e165_38, e165_39, e165_40, e165_43, e165_45, e165_46, e165_47, e165_48, e165_51, e165_52, e165_53, e165_54, e165_55, e165_56, e165_57, e165_58, e165_61, e165_62, e165_63I, e165_63R, e165_64, e165_65, e165_66, e165_70, e165_73, e165_75, e165_76, e165_79, e165_80, e165_81, e165_83, e165_25, e165_85, kl_I, kl_R, kl_N, kl_L, oSm, oNn, Option.bind_some, wN, if_pos, if_neg, nS, tN, t0, w0, w1, w2, w3, w4, w5, wm1, upA_ne, upA_same, if_true, if_false, Bool.false_eq_true, l9, tt3]
    refine PE.of rfl ⟨rfl, rfl, rfl, L3.up1 hn9 hN, ⟨(k, A, v), ⟨by show k ≤ 5; omega, hA, fun h => absurd h hk0, fun h => a3 (by have : k = 1 ∨ k = 2 := h; omega), fun h => a4 h⟩, ?_, ?_, ?_, ?_⟩, fun b b1 b2 b3 => ⟨?_, (ff b b2 b3).2⟩⟩
    · show upA _ _ _ sh.1 0 = _
      rw [upA_same]; exact a0
    · show upA _ _ _ sh.1 1 = _
      rw [upA_same]; exact a1
    · show upA _ _ _ sh.1 2 = _
      rw [upA_same]; show ω3.1 sh.1 2 = if 3 ≤ k then v else -1
      rw [a2]
      split
      · rfl
      · exact a3 (by omega)
    · show upA _ _ _ sh.1 3 = _
      rw [upA_same]; show (0 : Int) = if k = 0 then v else 0
      rw [if_neg hk0]
    · show upA _ _ _ b = _
      rw [upA_ne b3]; exact (ff b b2 b3).1
end PG0

