/-! ===== Column in M: by the root; pass ===== -/
theorem land_1 (x : Int) : land' x 1 = x % 2 := by
  have h : ((Int64.ofInt x).toBitVec &&& 1#64).toNat = (x % 2).toNat := by
    rw [BitVec.toNat_and]
    show (BitVec.ofInt 64 x).toNat &&& 1 = _
    rw [BitVec.toNat_ofInt, Nat.and_one_is_mod]
    omega
  show ((Int64.ofInt x).toBitVec &&& 1#64).toInt = _
  rw [BitVec.toInt_eq_toNat_of_lt (by rw [h]; omega), h]
  omega
theorem lcmp_0 {x y : Int} (h : wl x = wl y) : lcmp' x y = 0 := by
  unfold lcmp'
  rw [if_neg (by omega), if_pos h]
theorem lcmp_n {x y : Int} (h : ¬ wl x = wl y) : ¬ wi (lcmp' x y) = 0 := by
  unfold lcmp'
  split
  · decide
  · decide
theorem lcmp_w {x y : Int} (hx : -4611686018427387904 ≤ x ∧ x ≤ 4611686018427387904) (hy : -4611686018427387904 ≤ y ∧ y ≤ 4611686018427387904) : wi (lcmp' x y) = 0 ↔ x = y := by
  have e1 : wl x = x := wl_id (by omega) (by omega)
  have e2 : wl y = y := wl_id (by omega) (by omega)
  constructor
  · intro h
    by_cases e : x = y
    · exact e
    · exact absurd h (lcmp_n (by rw [e1, e2]; exact e))
  · intro h
    rw [h, lcmp_0 rfl]; rfl
theorem ldiv_2 {x : Int} (hx : -4611686018427387904 ≤ x ∧ x ≤ 4611686018427387904) (he : x % 2 = 0) : ldiv' x 2 = x / 2 := by
  have e : x.tdiv 2 = x / 2 := by
    obtain ⟨k, rfl⟩ : ∃ k, x = 2 * k := ⟨x / 2, by omega⟩
    rw [Int.mul_tdiv_cancel_left _ (by decide)]
    omega
  unfold ldiv'
  rw [Int64.toInt_div, Int64.toInt_ofInt_of_le (by omega) (by omega), show (Int64.ofInt 2).toInt = 2 by rfl, e]
  exact Int.bmod_eq_of_le (by omega) (by omega)
theorem HV.c {p : Nat} {σ : Mem} {W W' : Vc} (h : HV σ p W) (e : ∀ s, s < 16 → W s = W' s) : HV σ p W' := fun s hs => by rw [← e s hs]; exact h s hs
/-- the states below i by the root -/
def leM (W : Vc) (i : Nat) : Vc := fun r => if r < i then leQ (W r) else W r
theorem leM_s (W : Vc) (i : Nat) : leM W (i + 1) = upQ (leM W i) i (leQ (W i)) := by
  funext r
  simp only [leM, upQ_if]
  by_cases e : r = i
  · subst e; simp
  · by_cases h : r < i
    · rw [if_pos (by omega), if_neg e, if_pos h]
    · rw [if_neg (by omega), if_neg e, if_neg h]
section COC
variable {sh : Shp} {d c k N p : Nat} {σ : Mem} {W : Vc} {v : Int}
theorem F286 (hk : skd sh p = 3) (ha : p < sh.1) (hl : sln sh p = k) (h9 : k ≤ 1000000) : End (run sh (d + 1) 286 [mR p, mL v] σ) (fun r σ' => r = none ∧ (∀ x, x < k → σ'.2 p x = v) ∧ frL p σ σ') := by
  have L := for_P (k) (fun i => ∀ (σ1 : Mem), ((∀ x, x < i → σ1.2 p x = (fun _ => v) x) ∧ frL p σ σ1) → End (ev sh (d + 1) 286 6 [some (mR (p)), some (mL (v)), none, some (mI ((i : Nat) : Int)), some (mI ((k : Nat) : Int))] [] σ1) (fun r σ' => r = none ∧ (∀ x, x < k → σ'.2 p x = v) ∧ frL p σ σ')) (by
    intro σ1  hp
    replace hp : (∀ x, x < (k) → σ1.2 p x = (fun _ => v) x) ∧ frL p σ σ1 := hp
    show End (ev sh (d + 1) 286 6 [some (mR (p)), some (mL (v)), none, some (mI (((k) : Nat) : Int)), some (mI ((k : Nat) : Int))] [] σ1) (fun r σ' => r = none ∧ (∀ x, x < k → σ'.2 p x = v) ∧ frL p σ σ')
    rw [e286_6]
    simp (disch := first | assumption | omega | (simp (disch := omega) only [wN, w0, w1]; omega)) only [e286_0, e286_1, e286_2, e286_3, e286_4, e286_7, e286_9, e286_12, e286_13, e286_14, e286_15, e286_16, e286_19, e286_22, kl_I, kl_R, kl_N, kl_L, oSm, oNn, Option.bind_some, wN, if_pos, if_neg, nS, tN, t0, w0, w1, w2, w3, w4, w5, wm1, upA_ne, upA_same, if_true, if_false]
    exact End.of rfl ⟨rfl, hp⟩) (fun i hi ih => by
    replace ih : ∀ (σ1 : Mem), ((∀ x, x < (i + 1) → σ1.2 p x = (fun _ => v) x) ∧ frL p σ σ1) → End (ev sh (d + 1) 286 6 [some (mR (p)), some (mL (v)), none, some (mI (((i + 1) : Nat) : Int)), some (mI ((k : Nat) : Int))] [] σ1) (fun r σ' => r = none ∧ (∀ x, x < k → σ'.2 p x = v) ∧ frL p σ σ') := ih
    intro σ1  hp
    replace hp : (∀ x, x < i → σ1.2 p x = (fun _ => v) x) ∧ frL p σ σ1 := hp
    show End (ev sh (d + 1) 286 6 [some (mR (p)), some (mL (v)), none, some (mI ((i : Nat) : Int)), some (mI ((k : Nat) : Int))] [] σ1) (fun r σ' => r = none ∧ (∀ x, x < k → σ'.2 p x = v) ∧ frL p σ σ')
    rw [e286_6]
    simp (disch := first | assumption | omega | (simp (disch := omega) only [wN, w0, w1]; omega)) only [e286_0, e286_1, e286_2, e286_3, e286_4, e286_7, e286_9, e286_12, e286_13, e286_14, e286_15, e286_16, e286_19, e286_22, kl_I, kl_R, kl_N, kl_L, oSm, oNn, Option.bind_some, wN, if_pos, if_neg, nS, tN, t0, w0, w1, w2, w3, w4, w5, wm1, upA_ne, upA_same, if_true, if_false, hl]
    exact ih _ ⟨fil1 hp.1 rfl, hp.2.tr frL.up⟩) 0 (Nat.zero_le _)
  simp (disch := first | assumption | omega | (simp (disch := omega) only [wN, w0, w1]; omega)) only [e286_0, e286_1, e286_2, e286_3, e286_4, e286_7, e286_9, e286_12, e286_13, e286_14, e286_15, e286_16, e286_19, e286_22, kl_I, kl_R, kl_N, kl_L, oSm, oNn, Option.bind_some, wN, if_pos, if_neg, nS, tN, t0, w0, w1, w2, w3, w4, w5, wm1, upA_ne, upA_same, if_true, if_false, q286, hl]
  exact L σ ⟨fun x hx => by omega, frL.rf⟩
theorem C20 (hs : coS sh c) (hV : HV σ (c + 1) W) : run sh (d + 1) 20 [mR c] σ = some (some (mI (if fa (fun s => evQ (W s)) (16 - 0) 0 = true then 1 else 0)), σ) := by
  obtain ⟨ho, r0, k1, l1, hw⟩ := id hs
  have w64 : wi ((64 : Nat) : Int) = 64 := rfl
  have F := for_dn (fun i => ev sh (d + 1) 20 2 [some (mR (c)), some (mI ((4 * i : Nat) : Int))] [] (σ)) (fun i => some (some (mI (if fa (fun s => evQ (W s)) (16 - i) i = true then 1 else 0)), σ)) (16) (by
    show ev sh (d + 1) 20 2 [some (mR (c)), some (mI ((4 * (16) : Nat) : Int))] [] (σ) = some (some (mI (if fa (fun s => evQ (W s)) (16 - (16)) (16) = true then 1 else 0)), σ)
    rw [fa_e, e20_2]
    simp (disch := first | assumption | omega | (simp (disch := omega) only [wN, w0, w1]; omega)) only [e20_0, e20_1, e20_3, e20_4, e20_5, e20_6, e20_9, e20_10, e20_13, e20_14, e20_17, e20_18, e20_19, e20_20, e20_23, e20_24, e20_25, e20_26, e20_27, e20_28, e20_29, e20_30, e20_31, e20_32, e20_35, e20_36, e20_39, e20_40, e20_41, e20_42, e20_43, e20_44, e20_47, e20_48, e20_49, e20_50, e20_51, e20_52, e20_53, e20_54, e20_55, e20_56, e20_59, e20_60, e20_61, e20_64, e20_67, e20_68, kl_I, kl_R, kl_N, kl_L, oSm, oNn, Option.bind_some, wN, if_pos, if_neg, nS, tN, t0, w0, w1, w2, w3, w4, w5, wm1, upA_ne, upA_same, if_true, if_false, r0, l1, nS3, w64]) (fun i hi ih => by
    replace ih : ev sh (d + 1) 20 2 [some (mR (c)), some (mI ((4 * (i + 1) : Nat) : Int))] [] (σ) = some (some (mI (if fa (fun s => evQ (W s)) (16 - (i + 1)) (i + 1) = true then 1 else 0)), σ) := ih
    show ev sh (d + 1) 20 2 [some (mR (c)), some (mI ((4 * i : Nat) : Int))] [] (σ) = some (some (mI (if fa (fun s => evQ (W s)) (16 - i) i = true then 1 else 0)), σ)
    obtain ⟨g0, g1, g2, g3⟩ := hV i hi
    rw [e20_2, fa_s hi]
    by_cases h1 : ((W i).1 - (W i).2.2.1) % 2 = 0
    · by_cases h2 : ((W i).2.1 - (W i).2.2.2) % 2 = 0
      · have e : evQ (W i) = true := by simp [evQ, h1, h2]
        have c0 : lcmp' 0 0 = 0 := by decide
        simp (disch := first | assumption | omega | (simp (disch := omega) only [wN, w0, w1]; omega)) only [e20_0, e20_1, e20_3, e20_4, e20_5, e20_6, e20_9, e20_10, e20_13, e20_14, e20_17, e20_18, e20_19, e20_20, e20_23, e20_24, e20_25, e20_26, e20_27, e20_28, e20_29, e20_30, e20_31, e20_32, e20_35, e20_36, e20_39, e20_40, e20_41, e20_42, e20_43, e20_44, e20_47, e20_48, e20_49, e20_50, e20_51, e20_52, e20_53, e20_54, e20_55, e20_56, e20_59, e20_60, e20_61, e20_64, e20_67, e20_68, kl_I, kl_R, kl_N, kl_L, oSm, oNn, Option.bind_some, wN, if_pos, if_neg, nS, tN, t0, w0, w1, w2, w3, w4, w5, wm1, upA_ne, upA_same, if_true, if_false, r0, l1, nS2, nS3, nS4, w64, g0, g1, g2, g3, land_1, h1, h2, c0]
        rw [ih]
        simp [e]
      · have e : evQ (W i) = false := by simp [evQ, h2]
        have h2' : ((W i).2.1 - (W i).2.2.2) % 2 = 1 := by omega
        have c0 : lcmp' 0 0 = 0 := by decide
        have c1 : lcmp' 1 0 = 1 := by decide
        simp (disch := first | assumption | omega | (simp (disch := omega) only [wN, w0, w1]; omega)) only [e20_0, e20_1, e20_3, e20_4, e20_5, e20_6, e20_9, e20_10, e20_13, e20_14, e20_17, e20_18, e20_19, e20_20, e20_23, e20_24, e20_25, e20_26, e20_27, e20_28, e20_29, e20_30, e20_31, e20_32, e20_35, e20_36, e20_39, e20_40, e20_41, e20_42, e20_43, e20_44, e20_47, e20_48, e20_49, e20_50, e20_51, e20_52, e20_53, e20_54, e20_55, e20_56, e20_59, e20_60, e20_61, e20_64, e20_67, e20_68, kl_I, kl_R, kl_N, kl_L, oSm, oNn, Option.bind_some, wN, if_pos, if_neg, nS, tN, t0, w0, w1, w2, w3, w4, w5, wm1, upA_ne, upA_same, if_true, if_false, r0, l1, nS2, nS3, nS4, w64, g0, g1, g2, g3, land_1, h1, h2', c0, c1]
        simp [e]
    · have e : evQ (W i) = false := by simp [evQ, h1]
      have h1' : ((W i).1 - (W i).2.2.1) % 2 = 1 := by omega
      have c1 : lcmp' 1 0 = 1 := by decide
      simp (disch := first | assumption | omega | (simp (disch := omega) only [wN, w0, w1]; omega)) only [e20_0, e20_1, e20_3, e20_4, e20_5, e20_6, e20_9, e20_10, e20_13, e20_14, e20_17, e20_18, e20_19, e20_20, e20_23, e20_24, e20_25, e20_26, e20_27, e20_28, e20_29, e20_30, e20_31, e20_32, e20_35, e20_36, e20_39, e20_40, e20_41, e20_42, e20_43, e20_44, e20_47, e20_48, e20_49, e20_50, e20_51, e20_52, e20_53, e20_54, e20_55, e20_56, e20_59, e20_60, e20_61, e20_64, e20_67, e20_68, kl_I, kl_R, kl_N, kl_L, oSm, oNn, Option.bind_some, wN, if_pos, if_neg, nS, tN, t0, w0, w1, w2, w3, w4, w5, wm1, upA_ne, upA_same, if_true, if_false, r0, l1, nS2, nS3, nS4, w64, g0, g1, g2, g3, land_1, h1', c1]
      simp [e]) 0 (Nat.zero_le _)
  simp (disch := first | assumption | omega | (simp (disch := omega) only [wN, w0, w1]; omega)) only [e20_0, e20_1, e20_3, e20_4, e20_5, e20_6, e20_9, e20_10, e20_13, e20_14, e20_17, e20_18, e20_19, e20_20, e20_23, e20_24, e20_25, e20_26, e20_27, e20_28, e20_29, e20_30, e20_31, e20_32, e20_35, e20_36, e20_39, e20_40, e20_41, e20_42, e20_43, e20_44, e20_47, e20_48, e20_49, e20_50, e20_51, e20_52, e20_53, e20_54, e20_55, e20_56, e20_59, e20_60, e20_61, e20_64, e20_67, e20_68, kl_I, kl_R, kl_N, kl_L, oSm, oNn, Option.bind_some, wN, if_pos, if_neg, nS, tN, t0, w0, w1, w2, w3, w4, w5, wm1, upA_ne, upA_same, if_true, if_false, q20]
  exact F
theorem C21 (hs : coS sh c) (hV : HV σ (c + 1) W) (hb : bdW 1073741824 W) (he : evW W = true) : End (run sh (d + 1) 21 [mR c] σ) (fun r σ' => r = none ∧ HV σ' (c + 1) (leW W) ∧ frL (c + 1) σ σ') := by
  obtain ⟨ho, r0, k1, l1, hw⟩ := id hs
  have w64 : wi ((64 : Nat) : Int) = 64 := rfl
  have y2 : ¬ wl 2 = 0 := by decide
  have L := for_P (16) (fun i => ∀ (σ1 : Mem) (v2 v3 v4 v5 v6 v7 v8 v9 : Option MV), (HV σ1 (c + 1) (leM W i) ∧ frL (c + 1) σ σ1) → End (ev sh (d + 1) 21 2 [some (mR (c)), some (mI ((4 * i : Nat) : Int)), v2, v3, v4, v5, v6, v7, v8, v9] [] σ1) (fun r σ' => r = none ∧ HV σ' (c + 1) (leW W) ∧ frL (c + 1) σ σ')) (by
    intro σ1 v2 v3 v4 v5 v6 v7 v8 v9 hp
    replace hp : HV σ1 (c + 1) (leM W (16)) ∧ frL (c + 1) σ σ1 := hp
    show End (ev sh (d + 1) 21 2 [some (mR (c)), some (mI ((4 * (16) : Nat) : Int)), v2, v3, v4, v5, v6, v7, v8, v9] [] σ1) (fun r σ' => r = none ∧ HV σ' (c + 1) (leW W) ∧ frL (c + 1) σ σ')
    rw [e21_2]
    simp (disch := first | assumption | omega | (simp (disch := omega) only [wN, w0, w1]; omega)) only [e21_0, e21_1, e21_3, e21_4, e21_5, e21_6, e21_9, e21_10, e21_13, e21_14, e21_17, e21_18, e21_19, e21_20, e21_21, e21_24, e21_25, e21_26, e21_27, e21_28, e21_30, e21_31, e21_34, e21_35, e21_36, e21_37, e21_38, e21_40, e21_41, e21_44, e21_45, e21_46, e21_47, e21_48, e21_50, e21_51, e21_54, e21_55, e21_57, e21_59, e21_60, e21_63, e21_64, e21_65, e21_66, e21_69, e21_70, e21_71, e21_72, e21_73, e21_75, e21_76, e21_79, e21_80, e21_81, e21_82, e21_85, e21_86, e21_87, e21_88, e21_90, e21_92, e21_93, e21_96, e21_97, e21_98, e21_99, e21_102, e21_103, e21_104, e21_105, e21_107, e21_108, e21_109, e21_112, e21_113, e21_114, e21_117, e21_120, kl_I, kl_R, kl_N, kl_L, oSm, oNn, Option.bind_some, wN, if_pos, if_neg, nS, tN, t0, w0, w1, w2, w3, w4, w5, wm1, upA_ne, upA_same, if_true, if_false, r0, l1, nS3, w64]
    refine End.of rfl ⟨rfl, hp.1.c (fun s hs => ?_), hp.2⟩
    rw [leM, if_pos hs]; rfl) (fun i hi ih => by
    replace ih : ∀ (σ1 : Mem) (v2 v3 v4 v5 v6 v7 v8 v9 : Option MV), (HV σ1 (c + 1) (leM W (i + 1)) ∧ frL (c + 1) σ σ1) → End (ev sh (d + 1) 21 2 [some (mR (c)), some (mI ((4 * (i + 1) : Nat) : Int)), v2, v3, v4, v5, v6, v7, v8, v9] [] σ1) (fun r σ' => r = none ∧ HV σ' (c + 1) (leW W) ∧ frL (c + 1) σ σ') := ih
    intro σ1 v2 v3 v4 v5 v6 v7 v8 v9 hp
    replace hp : HV σ1 (c + 1) (leM W i) ∧ frL (c + 1) σ σ1 := hp
    show End (ev sh (d + 1) 21 2 [some (mR (c)), some (mI ((4 * i : Nat) : Int)), v2, v3, v4, v5, v6, v7, v8, v9] [] σ1) (fun r σ' => r = none ∧ HV σ' (c + 1) (leW W) ∧ frL (c + 1) σ σ')
    obtain ⟨g0, g1, g2, g3⟩ := hp.1 i hi
    have eM : leM W i i = W i := if_neg (Nat.lt_irrefl i)
    rw [eM] at g0 g1 g2 g3
    have ee := (fa_iff 16 0).mp he i (by omega) (by omega)
    simp only [evQ, Bool.and_eq_true, decide_eq_true_eq] at ee
    have bb := hb i
    simp only [bdQ] at bb
    have d1 := ldiv_2 (x := (W i).2.1 - (W i).2.2.2) (by omega) (by omega)
    have d2 := ldiv_2 (x := (W i).1 + (W i).2.2.1) (by omega) (by omega)
    have d3 := ldiv_2 (x := (W i).2.1 + (W i).2.2.2) (by omega) (by omega)
    have d4 := ldiv_2 (x := (W i).2.2.1 - (W i).1) (by omega) (by omega)
    rw [e21_2]
    simp (disch := first | assumption | omega | (simp (disch := omega) only [wN, w0, w1]; omega)) only [e21_0, e21_1, e21_3, e21_4, e21_5, e21_6, e21_9, e21_10, e21_13, e21_14, e21_17, e21_18, e21_19, e21_20, e21_21, e21_24, e21_25, e21_26, e21_27, e21_28, e21_30, e21_31, e21_34, e21_35, e21_36, e21_37, e21_38, e21_40, e21_41, e21_44, e21_45, e21_46, e21_47, e21_48, e21_50, e21_51, e21_54, e21_55, e21_57, e21_59, e21_60, e21_63, e21_64, e21_65, e21_66, e21_69, e21_70, e21_71, e21_72, e21_73, e21_75, e21_76, e21_79, e21_80, e21_81, e21_82, e21_85, e21_86, e21_87, e21_88, e21_90, e21_92, e21_93, e21_96, e21_97, e21_98, e21_99, e21_102, e21_103, e21_104, e21_105, e21_107, e21_108, e21_109, e21_112, e21_113, e21_114, e21_117, e21_120, kl_I, kl_R, kl_N, kl_L, oSm, oNn, Option.bind_some, wN, if_pos, if_neg, nS, tN, t0, w0, w1, w2, w3, w4, w5, wm1, upA_ne, upA_same, if_true, if_false, r0, l1, nS2, nS3, nS4, w64, g0, g1, g2, g3, d1, d2, d3, d4, upA_upA]
    refine ih _ _ _ _ _ _ _ _ _ ⟨?_, hp.2.tr frL.up⟩
    rw [leM_s]
    refine hp.1.put ?_ ?_ ?_ ?_ (fun x hx => ?_)
    all_goals simp (disch := omega) only [upA_same, up1_same, up1_ne]
    all_goals rfl) 0 (Nat.zero_le _)
  simp (disch := first | assumption | omega | (simp (disch := omega) only [wN, w0, w1]; omega)) only [e21_0, e21_1, e21_3, e21_4, e21_5, e21_6, e21_9, e21_10, e21_13, e21_14, e21_17, e21_18, e21_19, e21_20, e21_21, e21_24, e21_25, e21_26, e21_27, e21_28, e21_30, e21_31, e21_34, e21_35, e21_36, e21_37, e21_38, e21_40, e21_41, e21_44, e21_45, e21_46, e21_47, e21_48, e21_50, e21_51, e21_54, e21_55, e21_57, e21_59, e21_60, e21_63, e21_64, e21_65, e21_66, e21_69, e21_70, e21_71, e21_72, e21_73, e21_75, e21_76, e21_79, e21_80, e21_81, e21_82, e21_85, e21_86, e21_87, e21_88, e21_90, e21_92, e21_93, e21_96, e21_97, e21_98, e21_99, e21_102, e21_103, e21_104, e21_105, e21_107, e21_108, e21_109, e21_112, e21_113, e21_114, e21_117, e21_120, kl_I, kl_R, kl_N, kl_L, oSm, oNn, Option.bind_some, wN, if_pos, if_neg, nS, tN, t0, w0, w1, w2, w3, w4, w5, wm1, upA_ne, upA_same, if_true, if_false, q21]
  refine L σ _ _ _ _ _ _ _ _ ⟨hV.c (fun s hs => ?_), frL.rf⟩
  rw [leM, if_neg (by omega)]
/-- the power at c + .. and the parts; the rest as it was -/
def frC (c : Nat) (σ σ' : Mem) : Prop := (∀ a, a ≠ c → σ'.1 a = σ.1 a) ∧ σ'.1 c 1 = σ.1 c 1 ∧ ∀ a, a ≠ c + 1 → σ'.2 a = σ.2 a
theorem C19 {pw : Nat} (hs : coS sh c) (hV : HV σ (c + 1) W) (hb : bdW 1073741824 W) (hpw : σ.1 c 2 = (pw : Int)) (h30 : pw ≤ 1000) : End (run sh (d + 2) 19 [mR c] σ) (fun r σ' => r = none ∧ HV σ' (c + 1) (noV pw W).1 ∧ σ'.1 c 2 = ((noV pw W).2 : Int) ∧ frC c σ σ') := by
  obtain ⟨ho, r0, k1, l1, hw⟩ := id hs
  have L := for_P (pw) (fun i => ∀ (σ1 : Mem), (∃ V : Vc, noV (pw - i) V = noV pw W ∧ HV σ1 (c + 1) V ∧ bdW 1073741824 V ∧ σ1.1 c 2 = ((pw - i : Nat) : Int) ∧ frC c σ σ1) → End (ev sh (d + 2) 19 7 [some (mR (c)), some (mI ((pw : Nat) : Int)), some (mI ((i : Nat) : Int))] [] σ1) (fun r σ' => r = none ∧ HV σ' (c + 1) (noV pw W).1 ∧ σ'.1 c 2 = ((noV pw W).2 : Int) ∧ frC c σ σ')) (by
    intro σ1  hp
    replace hp : ∃ V : Vc, noV (pw - (pw)) V = noV pw W ∧ HV σ1 (c + 1) V ∧ bdW 1073741824 V ∧ σ1.1 c 2 = ((pw - (pw) : Nat) : Int) ∧ frC c σ σ1 := hp
    show End (ev sh (d + 2) 19 7 [some (mR (c)), some (mI ((pw : Nat) : Int)), some (mI (((pw) : Nat) : Int))] [] σ1) (fun r σ' => r = none ∧ HV σ' (c + 1) (noV pw W).1 ∧ σ'.1 c 2 = ((noV pw W).2 : Int) ∧ frC c σ σ')
    obtain ⟨V, e1, e2, e3, e4, e5⟩ := hp
    rw [Nat.sub_self] at e1 e4
    rw [e19_7]
    simp (disch := first | assumption | omega | (simp (disch := omega) only [wN, w0, w1]; omega)) only [e19_0, e19_1, e19_4, e19_5, e19_6, e19_8, e19_9, e19_12, e19_13, e19_16, e19_19, e19_22, e19_23, e19_26, e19_27I, e19_27R, e19_28, e19_31, e19_32, e19_33, e19_36, e19_39, e19_42, kl_I, kl_R, kl_N, kl_L, oSm, oNn, Option.bind_some, wN, if_pos, if_neg, nS, tN, t0, w0, w1, w2, w3, w4, w5, wm1, upA_ne, upA_same, if_true, if_false]
    refine End.of rfl ⟨rfl, ?_, ?_, e5⟩
    · rw [← e1]; exact e2
    · rw [← e1]; exact e4) (fun i hi ih => by
    replace ih : ∀ (σ1 : Mem), (∃ V : Vc, noV (pw - (i + 1)) V = noV pw W ∧ HV σ1 (c + 1) V ∧ bdW 1073741824 V ∧ σ1.1 c 2 = ((pw - (i + 1) : Nat) : Int) ∧ frC c σ σ1) → End (ev sh (d + 2) 19 7 [some (mR (c)), some (mI ((pw : Nat) : Int)), some (mI (((i + 1) : Nat) : Int))] [] σ1) (fun r σ' => r = none ∧ HV σ' (c + 1) (noV pw W).1 ∧ σ'.1 c 2 = ((noV pw W).2 : Int) ∧ frC c σ σ') := ih
    intro σ1  hp
    replace hp : ∃ V : Vc, noV (pw - i) V = noV pw W ∧ HV σ1 (c + 1) V ∧ bdW 1073741824 V ∧ σ1.1 c 2 = ((pw - i : Nat) : Int) ∧ frC c σ σ1 := hp
    show End (ev sh (d + 2) 19 7 [some (mR (c)), some (mI ((pw : Nat) : Int)), some (mI ((i : Nat) : Int))] [] σ1) (fun r σ' => r = none ∧ HV σ' (c + 1) (noV pw W).1 ∧ σ'.1 c 2 = ((noV pw W).2 : Int) ∧ frC c σ σ')
    obtain ⟨V, e1, e2, e3, e4, e5⟩ := hp
    obtain ⟨t, ht⟩ : ∃ t, pw - i = t + 1 := ⟨pw - i - 1, by omega⟩
    have ht2 : pw - (i + 1) = t := by omega
    rw [ht] at e1 e4
    rw [ht2] at ih
    have f1 := C20 (d := d) hs e2
    have f1' : fa (fun s => evQ (V s)) (16 - 0) 0 = evW V := rfl
    rw [f1'] at f1
    rw [e19_7]
    by_cases h : evW V = true
    · rw [if_pos h] at f1
      obtain ⟨r, σ2, g1, rfl, g3, g4⟩ := C21 (d := d) hs e2 e3 h
      have hp2 : σ2.1 c 2 = ((t + 1 : Nat) : Int) := by rw [g4.1]; exact e4
      have e : ((t + 1 : Nat) : Int) - 1 = (t : Int) := by omega
      simp (disch := first | assumption | omega | (simp (disch := omega) only [wN, w0, w1]; omega)) only [e19_0, e19_1, e19_4, e19_5, e19_6, e19_8, e19_9, e19_12, e19_13, e19_16, e19_19, e19_22, e19_23, e19_26, e19_27I, e19_27R, e19_28, e19_31, e19_32, e19_33, e19_36, e19_39, e19_42, kl_I, kl_R, kl_N, kl_L, oSm, oNn, Option.bind_some, wN, if_pos, if_neg, nS, tN, t0, w0, w1, w2, w3, w4, w5, wm1, upA_ne, upA_same, if_true, if_false, f1, g1, hp2, e]
      refine ih _ ⟨leW V, ?_, ?_, bd_le e3, ?_, ?_, ?_, ?_⟩
      · rw [noV, if_pos h] at e1; exact e1
      · exact g3
      · show upA _ _ _ _ _ = _
        rw [upA_same, up1_same]
      · intro a ha
        show upA _ _ _ _ = _
        rw [upA_ne ha, g4.1]; exact e5.1 a ha
      · show upA _ _ _ _ _ = _
        rw [upA_same, up1_ne (by omega), g4.1]; exact e5.2.1
      · intro a ha
        show σ2.2 a = _
        rw [g4.2 a ha]; exact e5.2.2 a ha
    · rw [if_neg h] at f1
      simp (disch := first | assumption | omega | (simp (disch := omega) only [wN, w0, w1]; omega)) only [e19_0, e19_1, e19_4, e19_5, e19_6, e19_8, e19_9, e19_12, e19_13, e19_16, e19_19, e19_22, e19_23, e19_26, e19_27I, e19_27R, e19_28, e19_31, e19_32, e19_33, e19_36, e19_39, e19_42, kl_I, kl_R, kl_N, kl_L, oSm, oNn, Option.bind_some, wN, if_pos, if_neg, nS, tN, t0, w0, w1, w2, w3, w4, w5, wm1, upA_ne, upA_same, if_true, if_false, f1]
      rw [noV, if_neg h] at e1
      refine End.of rfl ⟨rfl, ?_, ?_, e5⟩
      · rw [← e1]; exact e2
      · rw [← e1]; exact e4) 0 (Nat.zero_le _)
  simp (disch := first | assumption | omega | (simp (disch := omega) only [wN, w0, w1]; omega)) only [e19_0, e19_1, e19_4, e19_5, e19_6, e19_8, e19_9, e19_12, e19_13, e19_16, e19_19, e19_22, e19_23, e19_26, e19_27I, e19_27R, e19_28, e19_31, e19_32, e19_33, e19_36, e19_39, e19_42, kl_I, kl_R, kl_N, kl_L, oSm, oNn, Option.bind_some, wN, if_pos, if_neg, nS, tN, t0, w0, w1, w2, w3, w4, w5, wm1, upA_ne, upA_same, if_true, if_false, q19, hpw]
  exact L σ ⟨W, by rw [Nat.sub_zero], hV, hb, by rw [Nat.sub_zero]; exact hpw, fun _ _ => rfl, rfl, fun _ _ => rfl⟩
end COC
theorem fdP_le (c : List Gt) : ∀ i, fdP c i ≤ i
  | 0 => Nat.le_refl _
  | i + 1 => by
    have := fdP_le c i
    have : ktH (gA c i) ≤ 1 := by unfold ktH; split <;> omega
    rw [fdP]; omega
theorem up2_eq {f : Nat → Nat → Int} {c : Nat} {i : Nat} {v : Int} {a : Nat} (h : a ≠ c) : upA f c (up1 (f c) i v) a = f a := upA_ne h
section COD
variable {sh : Shp} {d c g cap n s : Nat} {σ : Mem} {l : List Gt}
/-- a column holds the amplitudes of l from state s -/
def HC (σ : Mem) (c n : Nat) (l : List Gt) (s : Nat) : Prop := HV σ (c + 1) (amV l s).1 ∧ σ.1 c 1 = ((2 ^ n : Nat) : Int) ∧ σ.1 c 2 = ((amV l s).2 : Int)
theorem C13 (hs : coS sh c) (hg : glS sh g cap) (hG : HG σ g l) (hc : l.length ≤ cap) (hb : cap ≤ 100) (hv : okC n l) (hn : n ≤ 4) (h30 : l.length ≤ 30) (hap : c + 1 < g ∨ g + 6 < c) (hst : s < 2 ^ n) : End (run sh (d + 3) 13 [mR c, mR g, mI (n : Int), mI (s : Int)] σ) (fun r σ' => r = none ∧ HC σ' c n l s ∧ frB c (c + 1) σ σ') := by
  obtain ⟨ho, r0, k1, l1, hw⟩ := id hs
  have hgo := hg.1
  have h16 : 2 ^ n ≤ 2 ^ 4 := Nat.pow_le_pow_right (by omega) hn
  have x1 := xshl_1 (k := n) (by omega)
  have x2 := mmn_nn (a := 2 ^ n) (b := 16) (by omega) (by omega)
  rw [show ((16 : Nat) : Int) = 16 from rfl, Nat.min_eq_left (by omega)] at x2
  have L := for_P (l.length) (fun i => ∀ (σ1 : Mem), (HV σ1 (c + 1) (fdW l i (e1W s)) ∧ σ1.1 c 1 = ((2 ^ n : Nat) : Int) ∧ σ1.1 c 2 = (fdP l i : Int) ∧ frB c (c + 1) σ σ1) → End (ev sh (d + 3) 13 49 [some (mR (c)), some (mR (g)), some (mI ((n : Nat) : Int)), some (mI ((s : Nat) : Int)), some (mI ((i : Nat) : Int))] [] σ1) (fun r σ' => r = none ∧ HC σ' c n l s ∧ frB c (c + 1) σ σ')) (by
    intro σ1  hp
    replace hp : HV σ1 (c + 1) (fdW l (l.length) (e1W s)) ∧ σ1.1 c 1 = ((2 ^ n : Nat) : Int) ∧ σ1.1 c 2 = (fdP l (l.length) : Int) ∧ frB c (c + 1) σ σ1 := hp
    show End (ev sh (d + 3) 13 49 [some (mR (c)), some (mR (g)), some (mI ((n : Nat) : Int)), some (mI ((s : Nat) : Int)), some (mI (((l.length) : Nat) : Int))] [] σ1) (fun r σ' => r = none ∧ HC σ' c n l s ∧ frB c (c + 1) σ σ')
    obtain ⟨e1, e2, e3, e4⟩ := hp
    have hG1 : HG σ1 g l := by
      refine ⟨by rw [(e4 g (by omega)).1]; exact hG.1, fun j hj => ?_⟩
      rw [(e4 (g + 1) (by omega)).1, (e4 (g + 2) (by omega)).1, (e4 (g + 3) (by omega)).1, (e4 (g + 4) (by omega)).1]
      exact hG.2 j hj
    have hl := hG1.1
    have hbd := bd_mono (p30 h30) (bd_fdW (c := l) (e1_bd s) l.length)
    have hle := fdP_le l l.length
    obtain ⟨r, σ2, f1, rfl, f3, f4, f5⟩ := C19 (d := d) hs e1 hbd e3 (by omega)
    rw [no_eq hn hv (e1_sp hst)] at f3 f4
    rw [e13_49]
    simp (disch := first | assumption | omega | (simp (disch := omega) only [wN, w0, w1]; omega)) only [e13_0, e13_1, e13_4, e13_5, e13_8, e13_9, e13_10, e13_11, e13_12, e13_14, e13_17, e13_20, e13_21, e13_22, e13_25, e13_26, e13_29, e13_30, e13_31, e13_34, e13_37, e13_38, e13_41, e13_42, e13_43, e13_44, e13_45, e13_46, e13_47, e13_51, e13_52, e13_55, e13_58, e13_59, e13_60, e13_62, e13_65, e13_66, e13_68, e13_71, e13_72, e13_74, e13_77, e13_80, e13_83, e13_86, e13_87, e13_90, kl_I, kl_R, kl_N, kl_L, oSm, oNn, Option.bind_some, wN, if_pos, if_neg, nS, tN, t0, w0, w1, w2, w3, w4, w5, wm1, upA_ne, upA_same, if_true, if_false, hl, f1]
    refine End.of rfl ⟨rfl, ⟨f3, by rw [f5.2.1]; exact e2, f4⟩, fun a ha => ⟨?_, ?_⟩⟩
    · rw [f5.1 a (by omega)]; exact (e4 a ha).1
    · rw [f5.2.2 a (by omega)]; exact (e4 a ha).2) (fun i hi ih => by
    replace ih : ∀ (σ1 : Mem), (HV σ1 (c + 1) (fdW l (i + 1) (e1W s)) ∧ σ1.1 c 1 = ((2 ^ n : Nat) : Int) ∧ σ1.1 c 2 = (fdP l (i + 1) : Int) ∧ frB c (c + 1) σ σ1) → End (ev sh (d + 3) 13 49 [some (mR (c)), some (mR (g)), some (mI ((n : Nat) : Int)), some (mI ((s : Nat) : Int)), some (mI (((i + 1) : Nat) : Int))] [] σ1) (fun r σ' => r = none ∧ HC σ' c n l s ∧ frB c (c + 1) σ σ') := ih
    intro σ1  hp
    replace hp : HV σ1 (c + 1) (fdW l i (e1W s)) ∧ σ1.1 c 1 = ((2 ^ n : Nat) : Int) ∧ σ1.1 c 2 = (fdP l i : Int) ∧ frB c (c + 1) σ σ1 := hp
    show End (ev sh (d + 3) 13 49 [some (mR (c)), some (mR (g)), some (mI ((n : Nat) : Int)), some (mI ((s : Nat) : Int)), some (mI ((i : Nat) : Int))] [] σ1) (fun r σ' => r = none ∧ HC σ' c n l s ∧ frB c (c + 1) σ σ')
    obtain ⟨e1, e2, e3, e4⟩ := hp
    have hG1 : HG σ1 g l := by
      refine ⟨by rw [(e4 g (by omega)).1]; exact hG.1, fun j hj => ?_⟩
      rw [(e4 (g + 1) (by omega)).1, (e4 (g + 2) (by omega)).1, (e4 (g + 3) (by omega)).1, (e4 (g + 4) (by omega)).1]
      exact hG.2 j hj
    have hl := hG1.1
    obtain ⟨r, σ2, f1, rfl, f3, f4, f5⟩ := C15 (d := d) hs e1 e2 hn (hv.at hi) e3
    rw [e13_49]
    simp (disch := first | assumption | omega | (simp (disch := omega) only [wN, w0, w1]; omega)) only [e13_0, e13_1, e13_4, e13_5, e13_8, e13_9, e13_10, e13_11, e13_12, e13_14, e13_17, e13_20, e13_21, e13_22, e13_25, e13_26, e13_29, e13_30, e13_31, e13_34, e13_37, e13_38, e13_41, e13_42, e13_43, e13_44, e13_45, e13_46, e13_47, e13_51, e13_52, e13_55, e13_58, e13_59, e13_60, e13_62, e13_65, e13_66, e13_68, e13_71, e13_72, e13_74, e13_77, e13_80, e13_83, e13_86, e13_87, e13_90, kl_I, kl_R, kl_N, kl_L, oSm, oNn, Option.bind_some, wN, if_pos, if_neg, nS, tN, t0, w0, w1, w2, w3, w4, w5, wm1, upA_ne, upA_same, if_true, if_false, hl, f1, L46 hg hG1 hc hb hi, L47 hg hG1 hc hb hi, L48 hg hG1 hc hb hi]
    refine ih _ ⟨?_, ?_, ?_, fun a ha => ⟨?_, ?_⟩⟩
    · rw [fdW, ← doW_eq (hv.at hi) (fdW_sp hv (e1_sp hst) i (by omega))]; exact f3
    · rw [f4, upA_same, up1_ne (by omega)]; exact e2
    · rw [f4, upA_same, up1_same]; rfl
    · rw [f4, upA_ne (by omega)]; exact (e4 a ha).1
    · rw [f5 a (by omega)]; exact (e4 a ha).2) 0 (Nat.zero_le _)
  obtain ⟨r, σ1, f1, rfl, f3, f4⟩ := F286 (d := d + 1) (v := 0) (σ := σ) k1 hw l1 (by omega)
  simp (disch := first | assumption | omega | (simp (disch := omega) only [wN, w0, w1]; omega)) only [e13_0, e13_1, e13_4, e13_5, e13_8, e13_9, e13_10, e13_11, e13_12, e13_14, e13_17, e13_20, e13_21, e13_22, e13_25, e13_26, e13_29, e13_30, e13_31, e13_34, e13_37, e13_38, e13_41, e13_42, e13_43, e13_44, e13_45, e13_46, e13_47, e13_51, e13_52, e13_55, e13_58, e13_59, e13_60, e13_62, e13_65, e13_66, e13_68, e13_71, e13_72, e13_74, e13_77, e13_80, e13_83, e13_86, e13_87, e13_90, kl_I, kl_R, kl_N, kl_L, oSm, oNn, Option.bind_some, wN, if_pos, if_neg, nS, tN, t0, w0, w1, w2, w3, w4, w5, wm1, upA_ne, upA_same, if_true, if_false, q13, r0, f1, x1, x2, up1_same, up1_ne, n4, l1, upA_upA]
  refine L _ ⟨?_, ?_, ?_, fun a ha => ⟨?_, ?_⟩⟩
  · intro t ht
    show upA _ _ _ _ _ = _ ∧ upA _ _ _ _ _ = _ ∧ upA _ _ _ _ _ = _ ∧ upA _ _ _ _ _ = _
    rw [upA_same, fdW, e1W]
    by_cases e : t = s
    · subst e
      rw [if_pos rfl, up1_same, up1_ne (by omega), up1_ne (by omega), up1_ne (by omega), f3 _ (by omega), f3 _ (by omega), f3 _ (by omega)]
      exact ⟨rfl, rfl, rfl, rfl⟩
    · rw [if_neg e, up1_ne (by omega), up1_ne (by omega), up1_ne (by omega), up1_ne (by omega), f3 _ (by omega), f3 _ (by omega), f3 _ (by omega), f3 _ (by omega)]
      exact ⟨rfl, rfl, rfl, rfl⟩
  · show upA _ _ _ _ _ = _
    rw [upA_same, up1_ne (by omega), up1_same]
  · show upA _ _ _ _ _ = _
    rw [upA_same, up1_same]; rfl
  · show upA _ _ _ _ = _
    rw [upA_ne (by omega), f4.1]
  · show upA _ _ _ _ = _
    rw [upA_ne (by omega), f4.2 a (by omega)]
end COD
