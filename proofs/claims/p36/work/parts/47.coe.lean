/-! ===== Column in M: reads ===== -/
theorem xand_e7 (x : Int) : xand x 7 = x % 8 := by
  have h : ((Int32.ofInt x).toBitVec &&& 7#32).toNat = (x % 8).toNat := by
    rw [BitVec.toNat_and]
    show (BitVec.ofInt 32 x).toNat &&& 7 = _
    rw [BitVec.toNat_ofInt, show (7 : Nat) = 2 ^ 3 - 1 from rfl, Nat.and_two_pow_sub_one_eq_mod]
    omega
  show ((Int32.ofInt x).toBitVec &&& 7#32).toInt = _
  rw [BitVec.toInt_eq_toNat_of_lt (by rw [h]; omega), h]
  omega
theorem prt_bd {B : Int} {q : Q4} (h : bdQ B q) (i : Nat) : -B ≤ prt q i ∧ prt q i ≤ B := by
  obtain ⟨h1, h2, h3, h4⟩ := h
  unfold prt
  split
  · exact h1
  · exact h2
  · exact h3
  · exact h4
theorem trn {t i : Nat} (ht : t < 8) (hi : i < 4) (q : Q4) : prt (tuQ t q) i = if (i + 8 - t) % 8 < 4 then prt q ((i + 8 - t) % 8) else -prt q ((i + 8 - t) % 8 - 4) := by
  rcases (show t = 0 ∨ t = 1 ∨ t = 2 ∨ t = 3 ∨ t = 4 ∨ t = 5 ∨ t = 6 ∨ t = 7 by omega) with rfl | rfl | rfl | rfl | rfl | rfl | rfl | rfl <;>
    rcases (show i = 0 ∨ i = 1 ∨ i = 2 ∨ i = 3 by omega) with rfl | rfl | rfl | rfl <;> simp [tuQ, tu1, prt]
theorem xmod8 {i t : Nat} (hi : i < 4) (ht : t < 8) : xand ((i : Int) - (t : Int)) 7 = (((i + 8 - t) % 8 : Nat) : Int) := by
  rw [xand_e7]; omega
def exT (P : Nat → Nat) (s : Nat) : Nat → Nat
  | 0 => 0
  | l + 1 => if s.testBit l = true then exT P s l ||| 2 ^ P l else exT P s l
theorem exT_lt {P : Nat → Nat} {n s : Nat} (hs : s < 2 ^ n) (hP : ∀ x, x < n → P x < n) : ∀ l, exT P s l < 2 ^ n
  | 0 => Nat.two_pow_pos n
  | l + 1 => by
    rw [exT]
    split
    · rename_i h
      have hl : l < n := by
        rcases Nat.lt_or_ge l n with h1 | h1
        · exact h1
        · rw [bit_ge hs h1] at h; cases h
      exact Nat.or_lt_two_pow (exT_lt hs hP l) (Nat.pow_lt_pow_right (by omega) (hP l hl))
    · exact exT_lt hs hP l
section COE
variable {sh : Shp} {d c o ly n N s i t po : Nat} {σ : Mem} {W V : Vc} {z : Int} {P : Nat → Nat} {pw : Int}
theorem C14 (hs : coS sh c) (hV : HV σ (c + 1) W) (hN : σ.1 c 1 = (N : Int)) (hN16 : N ≤ 16) (hs1 : s < N) (hi : i < 4) : run sh (d + 1) 14 [mR c, mI (s : Int), mI (i : Int)] σ = some (some (mL (prt (W s) i)), σ) := by
  obtain ⟨ho, r0, k1, l1, hw⟩ := id hs
  have g := hV.at (show s < 16 by omega) hi
  simp (disch := first | assumption | omega | (simp (disch := omega) only [wN, w0, w1]; omega)) only [e14_0, e14_1, e14_4, e14_5, e14_6, e14_9, e14_12, e14_13, e14_16, e14_17, e14_18, e14_21, e14_22, e14_25, e14_26, e14_27, e14_28, e14_29, e14_30, e14_31, e14_34, e14_35, kl_I, kl_R, kl_N, kl_L, oSm, oNn, Option.bind_some, wN, if_pos, if_neg, nS, tN, t0, w0, w1, w2, w3, w4, w5, wm1, upA_ne, upA_same, if_true, if_false, Bool.false_eq_true, q14, hN, n4, r0, l1, ← Int.natCast_add, g]
theorem C14z (hs : coS sh c) (hV : HV σ (c + 1) W) (hN : σ.1 c 1 = (N : Int)) (hN16 : N ≤ 16) (hs1 : s < N) (hi : i < 4) (hz : z = (i : Int)) : run sh (d + 1) 14 [mR c, mI (s : Int), mI z] σ = some (some (mL (prt (W s) i)), σ) := by
  rw [hz]; exact C14 hs hV hN hN16 hs1 hi
theorem C22 (hs : coS sh c) (hV : HV σ (c + 1) W) (hN : σ.1 c 1 = (N : Int)) (hN16 : N ≤ 16) (hb : bdW 1073741824 W) : run sh (d + 2) 22 [mR c] σ = some (some (mI (cnt (fun s => decide (W s ≠ qz)) N : Int)), σ) := by
  have ho := hs.1
  have F := for_up (fun i => ev sh (d + 2) 22 4 [some (mR (c)), some (mI ((cnt (fun s => decide (W s ≠ qz)) i : Nat) : Int)), some (mI ((i : Nat) : Int))] [] (σ)) (N) (fun i hi => by
    show ev sh (d + 2) 22 4 [some (mR (c)), some (mI ((cnt (fun s => decide (W s ≠ qz)) i : Nat) : Int)), some (mI ((i : Nat) : Int))] [] (σ) = ev sh (d + 2) 22 4 [some (mR (c)), some (mI ((cnt (fun s => decide (W s ≠ qz)) (i + 1) : Nat) : Int)), some (mI (((i + 1) : Nat) : Int))] [] (σ)
    have hi' := hi
    have a0 := C14z (d := d) (z := 0) (i := 0) hs hV hN hN16 hi (by omega) rfl
    have a1 := C14z (d := d) (z := 1) (i := 1) hs hV hN hN16 hi (by omega) rfl
    have a2 := C14z (d := d) (z := 2) (i := 2) hs hV hN hN16 hi (by omega) rfl
    have a3 := C14z (d := d) (z := 3) (i := 3) hs hV hN hN16 hi (by omega) rfl
    have bb := fun j => prt_bd (hb i) j
    have lw := fun j => lcmp_w (x := prt (W i) j) (y := 0) (by have := bb j; omega) (by omega)
    have c0 : lcmp' 0 0 = 0 := by decide
    rw [e22_4]
    by_cases h0 : prt (W i) 0 = 0
    · by_cases h1 : prt (W i) 1 = 0
      · by_cases h2 : prt (W i) 2 = 0
        · by_cases h3 : prt (W i) 3 = 0
          · have e : W i = qz := q4_ext h0 h1 h2 h3
            simp (disch := first | assumption | omega | (simp (disch := omega) only [wN, w0, w1]; omega)) only [e22_0, e22_1, e22_2, e22_3, e22_5, e22_6, e22_9, e22_12, e22_13, e22_14, e22_15, e22_18, e22_19, e22_20, e22_23, e22_24, e22_25, e22_26, e22_29, e22_30, e22_31, e22_34, e22_35, e22_36, e22_37, e22_40, e22_41, e22_42, e22_45, e22_46, e22_47, e22_48, e22_51, e22_52, e22_53, e22_56, e22_59, e22_62, e22_65, e22_66, kl_I, kl_R, kl_N, kl_L, oSm, oNn, Option.bind_some, wN, if_pos, if_neg, nS, tN, t0, w0, w1, w2, w3, w4, w5, wm1, upA_ne, upA_same, if_true, if_false, Bool.false_eq_true, hN, a0, a1, a2, a3, h0, h1, h2, h3, c0]
            simp [cnt, e]
          · have e : W i ≠ qz := fun z => h3 (by rw [z]; rfl)
            have n3 : ¬ wi (lcmp' (prt (W i) 3) 0) = 0 := fun z => h3 ((lw 3).mp z)
            simp (disch := first | assumption | omega | (simp (disch := omega) only [wN, w0, w1]; omega)) only [e22_0, e22_1, e22_2, e22_3, e22_5, e22_6, e22_9, e22_12, e22_13, e22_14, e22_15, e22_18, e22_19, e22_20, e22_23, e22_24, e22_25, e22_26, e22_29, e22_30, e22_31, e22_34, e22_35, e22_36, e22_37, e22_40, e22_41, e22_42, e22_45, e22_46, e22_47, e22_48, e22_51, e22_52, e22_53, e22_56, e22_59, e22_62, e22_65, e22_66, kl_I, kl_R, kl_N, kl_L, oSm, oNn, Option.bind_some, wN, if_pos, if_neg, nS, tN, t0, w0, w1, w2, w3, w4, w5, wm1, upA_ne, upA_same, if_true, if_false, Bool.false_eq_true, hN, a0, a1, a2, a3, h0, h1, h2, c0]
            simp [cnt, e]
        · have e : W i ≠ qz := fun z => h2 (by rw [z]; rfl)
          have n3 : ¬ wi (lcmp' (prt (W i) 2) 0) = 0 := fun z => h2 ((lw 2).mp z)
          simp (disch := first | assumption | omega | (simp (disch := omega) only [wN, w0, w1]; omega)) only [e22_0, e22_1, e22_2, e22_3, e22_5, e22_6, e22_9, e22_12, e22_13, e22_14, e22_15, e22_18, e22_19, e22_20, e22_23, e22_24, e22_25, e22_26, e22_29, e22_30, e22_31, e22_34, e22_35, e22_36, e22_37, e22_40, e22_41, e22_42, e22_45, e22_46, e22_47, e22_48, e22_51, e22_52, e22_53, e22_56, e22_59, e22_62, e22_65, e22_66, kl_I, kl_R, kl_N, kl_L, oSm, oNn, Option.bind_some, wN, if_pos, if_neg, nS, tN, t0, w0, w1, w2, w3, w4, w5, wm1, upA_ne, upA_same, if_true, if_false, Bool.false_eq_true, hN, a0, a1, a2, a3, h0, h1, c0]
          simp [cnt, e]
      · have e : W i ≠ qz := fun z => h1 (by rw [z]; rfl)
        have n3 : ¬ wi (lcmp' (prt (W i) 1) 0) = 0 := fun z => h1 ((lw 1).mp z)
        simp (disch := first | assumption | omega | (simp (disch := omega) only [wN, w0, w1]; omega)) only [e22_0, e22_1, e22_2, e22_3, e22_5, e22_6, e22_9, e22_12, e22_13, e22_14, e22_15, e22_18, e22_19, e22_20, e22_23, e22_24, e22_25, e22_26, e22_29, e22_30, e22_31, e22_34, e22_35, e22_36, e22_37, e22_40, e22_41, e22_42, e22_45, e22_46, e22_47, e22_48, e22_51, e22_52, e22_53, e22_56, e22_59, e22_62, e22_65, e22_66, kl_I, kl_R, kl_N, kl_L, oSm, oNn, Option.bind_some, wN, if_pos, if_neg, nS, tN, t0, w0, w1, w2, w3, w4, w5, wm1, upA_ne, upA_same, if_true, if_false, Bool.false_eq_true, hN, a0, a1, a2, a3, h0, c0]
        simp [cnt, e]
    · have e : W i ≠ qz := fun z => h0 (by rw [z]; rfl)
      have n3 : ¬ wi (lcmp' (prt (W i) 0) 0) = 0 := fun z => h0 ((lw 0).mp z)
      simp (disch := first | assumption | omega | (simp (disch := omega) only [wN, w0, w1]; omega)) only [e22_0, e22_1, e22_2, e22_3, e22_5, e22_6, e22_9, e22_12, e22_13, e22_14, e22_15, e22_18, e22_19, e22_20, e22_23, e22_24, e22_25, e22_26, e22_29, e22_30, e22_31, e22_34, e22_35, e22_36, e22_37, e22_40, e22_41, e22_42, e22_45, e22_46, e22_47, e22_48, e22_51, e22_52, e22_53, e22_56, e22_59, e22_62, e22_65, e22_66, kl_I, kl_R, kl_N, kl_L, oSm, oNn, Option.bind_some, wN, if_pos, if_neg, nS, tN, t0, w0, w1, w2, w3, w4, w5, wm1, upA_ne, upA_same, if_true, if_false, Bool.false_eq_true, hN, a0, a1, a2, a3, c0]
      simp [cnt, e]) 0 (Nat.zero_le _)
  simp (disch := first | assumption | omega | (simp (disch := omega) only [wN, w0, w1]; omega)) only [e22_0, e22_1, e22_2, e22_3, e22_5, e22_6, e22_9, e22_12, e22_13, e22_14, e22_15, e22_18, e22_19, e22_20, e22_23, e22_24, e22_25, e22_26, e22_29, e22_30, e22_31, e22_34, e22_35, e22_36, e22_37, e22_40, e22_41, e22_42, e22_45, e22_46, e22_47, e22_48, e22_51, e22_52, e22_53, e22_56, e22_59, e22_62, e22_65, e22_66, kl_I, kl_R, kl_N, kl_L, oSm, oNn, Option.bind_some, wN, if_pos, if_neg, nS, tN, t0, w0, w1, w2, w3, w4, w5, wm1, upA_ne, upA_same, if_true, if_false, Bool.false_eq_true, q22]
  refine F.trans ?_
  show ev sh (d + 2) 22 4 [some (mR (c)), some (mI ((cnt (fun s => decide (W s ≠ qz)) N : Nat) : Int)), some (mI ((N : Nat) : Int))] [] σ = _
  rw [e22_4]
  simp (disch := first | assumption | omega | (simp (disch := omega) only [wN, w0, w1]; omega)) only [e22_0, e22_1, e22_2, e22_3, e22_5, e22_6, e22_9, e22_12, e22_13, e22_14, e22_15, e22_18, e22_19, e22_20, e22_23, e22_24, e22_25, e22_26, e22_29, e22_30, e22_31, e22_34, e22_35, e22_36, e22_37, e22_40, e22_41, e22_42, e22_45, e22_46, e22_47, e22_48, e22_51, e22_52, e22_53, e22_56, e22_59, e22_62, e22_65, e22_66, kl_I, kl_R, kl_N, kl_L, oSm, oNn, Option.bind_some, wN, if_pos, if_neg, nS, tN, t0, w0, w1, w2, w3, w4, w5, wm1, upA_ne, upA_same, if_true, if_false, Bool.false_eq_true, hN]
theorem C23 (hs : coS sh c) (hV : HV σ (c + 1) W) (hN : σ.1 c 1 = (N : Int)) (hN16 : N ≤ 16) (hb : bdW 1073741824 W) (hs2 : coS sh o) (hV2 : HV σ (o + 1) V) (hN2 : σ.1 o 1 = (N : Int)) (hb2 : bdW 1073741824 V) (hp1 : σ.1 c 2 = (s : Int)) (hp2 : σ.1 o 2 = (i : Int)) (hs9 : s < 1000) (hi9 : i < 1000) (ht : t < 8) : run sh (d + 2) 23 [mR c, mR o, mI (t : Int)] σ = some (some (mI (if s = i ∧ fa (fun y => decide (W y = tuQ t (V y))) (N - 0) 0 = true then 1 else 0)), σ) := by
  have ho := hs.1
  have ho2 := hs2.1
  by_cases hpw : s = i
  · have hpI : (s : Int) = (i : Int) := by rw [hpw]
    have A := for_P (N) (fun r => ∀ v4 v5 v6 v7 : Option MV, ev sh (d + 2) 23 15 [some (mR (c)), some (mR (o)), some (mI ((t : Nat) : Int)), some (mI ((r : Nat) : Int)), v4, v5, v6, v7] [] (σ) = some (some (mI (if fa (fun y => decide (W y = tuQ t (V y))) (N - r) r = true then 1 else 0)), σ)) (by
      intro v4 v5 v6 v7
      show ev sh (d + 2) 23 15 [some (mR (c)), some (mR (o)), some (mI ((t : Nat) : Int)), some (mI (((N) : Nat) : Int)), v4, v5, v6, v7] [] (σ) = some (some (mI (if fa (fun y => decide (W y = tuQ t (V y))) (N - (N)) (N) = true then 1 else 0)), σ)
      rw [fa_e, e23_15]
      simp (disch := first | assumption | omega | (simp (disch := omega) only [wN, w0, w1]; omega)) only [e23_0, e23_1, e23_4, e23_5, e23_8, e23_11, e23_12, e23_13, e23_14, e23_16, e23_17, e23_20, e23_23, e23_24, e23_28, e23_29, e23_32, e23_34, e23_35, e23_36, e23_38, e23_39, e23_41, e23_43, e23_44, e23_47, e23_48, e23_49, e23_51, e23_54, e23_57, e23_58, e23_59, e23_61, e23_62, e23_63, e23_66, e23_67, e23_69, e23_70, e23_71, e23_73, e23_76, e23_78, e23_79, e23_82, e23_83, e23_84, e23_87, e23_90, e23_93, e23_96, e23_97, kl_I, kl_R, kl_N, kl_L, oSm, oNn, Option.bind_some, wN, if_pos, if_neg, nS, tN, t0, w0, w1, w2, w3, w4, w5, wm1, upA_ne, upA_same, if_true, if_false, Bool.false_eq_true, hN]) (fun r hi ih => by
      replace ih : ∀ v4 v5 v6 v7 : Option MV, ev sh (d + 2) 23 15 [some (mR (c)), some (mR (o)), some (mI ((t : Nat) : Int)), some (mI (((r + 1) : Nat) : Int)), v4, v5, v6, v7] [] (σ) = some (some (mI (if fa (fun y => decide (W y = tuQ t (V y))) (N - (r + 1)) (r + 1) = true then 1 else 0)), σ) := ih
      intro v4 v5 v6 v7
      show ev sh (d + 2) 23 15 [some (mR (c)), some (mR (o)), some (mI ((t : Nat) : Int)), some (mI ((r : Nat) : Int)), v4, v5, v6, v7] [] (σ) = some (some (mI (if fa (fun y => decide (W y = tuQ t (V y))) (N - r) r = true then 1 else 0)), σ)
      have hr := hi
      rw [e23_15, fa_s hi]
      have I := for_P (4) (fun j => ∀ v5 v6 v7 : Option MV, ev sh (d + 2) 23 26 [some (mR (c)), some (mR (o)), some (mI ((t : Nat) : Int)), some (mI ((r : Nat) : Int)), some (mI ((j : Nat) : Int)), v5, v6, v7] [] (σ) = some (some (mI (if (fa (fun y => decide (prt (W r) y = prt (tuQ t (V r)) y)) (4 - j) j && fa (fun y => decide (W y = tuQ t (V y))) (N - (r + 1)) (r + 1)) = true then 1 else 0)), σ)) (by
        intro v5 v6 v7
        show ev sh (d + 2) 23 26 [some (mR (c)), some (mR (o)), some (mI ((t : Nat) : Int)), some (mI ((r : Nat) : Int)), some (mI (((4) : Nat) : Int)), v5, v6, v7] [] (σ) = some (some (mI (if (fa (fun y => decide (prt (W r) y = prt (tuQ t (V r)) y)) (4 - (4)) (4) && fa (fun y => decide (W y = tuQ t (V y))) (N - (r + 1)) (r + 1)) = true then 1 else 0)), σ)
        rw [fa_e, e23_26]
        simp (disch := first | assumption | omega | (simp (disch := omega) only [wN, w0, w1]; omega)) only [e23_0, e23_1, e23_4, e23_5, e23_8, e23_11, e23_12, e23_13, e23_14, e23_16, e23_17, e23_20, e23_23, e23_24, e23_28, e23_29, e23_32, e23_34, e23_35, e23_36, e23_38, e23_39, e23_41, e23_43, e23_44, e23_47, e23_48, e23_49, e23_51, e23_54, e23_57, e23_58, e23_59, e23_61, e23_62, e23_63, e23_66, e23_67, e23_69, e23_70, e23_71, e23_73, e23_76, e23_78, e23_79, e23_82, e23_83, e23_84, e23_87, e23_90, e23_93, e23_96, e23_97, kl_I, kl_R, kl_N, kl_L, oSm, oNn, Option.bind_some, wN, if_pos, if_neg, nS, tN, t0, w0, w1, w2, w3, w4, w5, wm1, upA_ne, upA_same, if_true, if_false, Bool.false_eq_true]
        exact ih _ _ _ _) (fun j hi ih => by
        replace ih : ∀ v5 v6 v7 : Option MV, ev sh (d + 2) 23 26 [some (mR (c)), some (mR (o)), some (mI ((t : Nat) : Int)), some (mI ((r : Nat) : Int)), some (mI (((j + 1) : Nat) : Int)), v5, v6, v7] [] (σ) = some (some (mI (if (fa (fun y => decide (prt (W r) y = prt (tuQ t (V r)) y)) (4 - (j + 1)) (j + 1) && fa (fun y => decide (W y = tuQ t (V y))) (N - (r + 1)) (r + 1)) = true then 1 else 0)), σ) := ih
        intro v5 v6 v7
        show ev sh (d + 2) 23 26 [some (mR (c)), some (mR (o)), some (mI ((t : Nat) : Int)), some (mI ((r : Nat) : Int)), some (mI ((j : Nat) : Int)), v5, v6, v7] [] (σ) = some (some (mI (if (fa (fun y => decide (prt (W r) y = prt (tuQ t (V r)) y)) (4 - j) j && fa (fun y => decide (W y = tuQ t (V y))) (N - (r + 1)) (r + 1)) = true then 1 else 0)), σ)
        have b1 := prt_bd (hb r) j
        have b2 := prt_bd (bd_tu t (hb2 r)) j
        have lw := lcmp_w (x := prt (W r) j) (y := prt (tuQ t (V r)) j) (by omega) (by omega)
        have a1 := C14 (d := d) hs hV hN hN16 hr hi
        have tr := trn ht hi (V r)
        have hm : (j + 8 - t) % 8 < 8 := Nat.mod_lt _ (by omega)
        rw [e23_26, fa_s hi]
        by_cases hf : (j + 8 - t) % 8 < 4
        · rw [if_pos hf] at tr
          have a2 := C14 (d := d) hs2 hV2 hN2 hN16 hr hf
          by_cases he : prt (W r) j = prt (tuQ t (V r)) j
          · have hl := lw.mpr he
            rw [tr] at hl
            simp (disch := first | assumption | omega | (simp (disch := omega) only [wN, w0, w1]; omega)) only [e23_0, e23_1, e23_4, e23_5, e23_8, e23_11, e23_12, e23_13, e23_14, e23_16, e23_17, e23_20, e23_23, e23_24, e23_28, e23_29, e23_32, e23_34, e23_35, e23_36, e23_38, e23_39, e23_41, e23_43, e23_44, e23_47, e23_48, e23_49, e23_51, e23_54, e23_57, e23_58, e23_59, e23_61, e23_62, e23_63, e23_66, e23_67, e23_69, e23_70, e23_71, e23_73, e23_76, e23_78, e23_79, e23_82, e23_83, e23_84, e23_87, e23_90, e23_93, e23_96, e23_97, kl_I, kl_R, kl_N, kl_L, oSm, oNn, Option.bind_some, wN, if_pos, if_neg, nS, tN, t0, w0, w1, w2, w3, w4, w5, wm1, upA_ne, upA_same, if_true, if_false, Bool.false_eq_true, xmod8, a1, a2]
            rw [ih]
            simp [he]
          · have hl : ¬ wi (lcmp' (prt (W r) j) (prt (tuQ t (V r)) j)) = 0 := fun z => he (lw.mp z)
            rw [tr] at hl
            simp (disch := first | assumption | omega | (simp (disch := omega) only [wN, w0, w1]; omega)) only [e23_0, e23_1, e23_4, e23_5, e23_8, e23_11, e23_12, e23_13, e23_14, e23_16, e23_17, e23_20, e23_23, e23_24, e23_28, e23_29, e23_32, e23_34, e23_35, e23_36, e23_38, e23_39, e23_41, e23_43, e23_44, e23_47, e23_48, e23_49, e23_51, e23_54, e23_57, e23_58, e23_59, e23_61, e23_62, e23_63, e23_66, e23_67, e23_69, e23_70, e23_71, e23_73, e23_76, e23_78, e23_79, e23_82, e23_83, e23_84, e23_87, e23_90, e23_93, e23_96, e23_97, kl_I, kl_R, kl_N, kl_L, oSm, oNn, Option.bind_some, wN, if_pos, if_neg, nS, tN, t0, w0, w1, w2, w3, w4, w5, wm1, upA_ne, upA_same, if_true, if_false, Bool.false_eq_true, xmod8, a1, a2]
            simp [he]
        · rw [if_neg hf] at tr
          have a2 := C14 (d := d) (i := (j + 8 - t) % 8 - 4) hs2 hV2 hN2 hN16 hr (by omega)
          have em : (((j + 8 - t) % 8 : Nat) : Int) - 4 = (((j + 8 - t) % 8 - 4 : Nat) : Int) := by omega
          by_cases he : prt (W r) j = prt (tuQ t (V r)) j
          · have hl := lw.mpr he
            rw [tr] at hl
            simp (disch := first | assumption | omega | (simp (disch := omega) only [wN, w0, w1]; omega)) only [e23_0, e23_1, e23_4, e23_5, e23_8, e23_11, e23_12, e23_13, e23_14, e23_16, e23_17, e23_20, e23_23, e23_24, e23_28, e23_29, e23_32, e23_34, e23_35, e23_36, e23_38, e23_39, e23_41, e23_43, e23_44, e23_47, e23_48, e23_49, e23_51, e23_54, e23_57, e23_58, e23_59, e23_61, e23_62, e23_63, e23_66, e23_67, e23_69, e23_70, e23_71, e23_73, e23_76, e23_78, e23_79, e23_82, e23_83, e23_84, e23_87, e23_90, e23_93, e23_96, e23_97, kl_I, kl_R, kl_N, kl_L, oSm, oNn, Option.bind_some, wN, if_pos, if_neg, nS, tN, t0, w0, w1, w2, w3, w4, w5, wm1, upA_ne, upA_same, if_true, if_false, Bool.false_eq_true, xmod8, a1, a2, em]
            rw [ih]
            simp [he]
          · have hl : ¬ wi (lcmp' (prt (W r) j) (prt (tuQ t (V r)) j)) = 0 := fun z => he (lw.mp z)
            rw [tr] at hl
            simp (disch := first | assumption | omega | (simp (disch := omega) only [wN, w0, w1]; omega)) only [e23_0, e23_1, e23_4, e23_5, e23_8, e23_11, e23_12, e23_13, e23_14, e23_16, e23_17, e23_20, e23_23, e23_24, e23_28, e23_29, e23_32, e23_34, e23_35, e23_36, e23_38, e23_39, e23_41, e23_43, e23_44, e23_47, e23_48, e23_49, e23_51, e23_54, e23_57, e23_58, e23_59, e23_61, e23_62, e23_63, e23_66, e23_67, e23_69, e23_70, e23_71, e23_73, e23_76, e23_78, e23_79, e23_82, e23_83, e23_84, e23_87, e23_90, e23_93, e23_96, e23_97, kl_I, kl_R, kl_N, kl_L, oSm, oNn, Option.bind_some, wN, if_pos, if_neg, nS, tN, t0, w0, w1, w2, w3, w4, w5, wm1, upA_ne, upA_same, if_true, if_false, Bool.false_eq_true, xmod8, a1, a2, em]
            simp [he]) 0 (Nat.zero_le _)
      have eI : fa (fun y => decide (prt (W r) y = prt (tuQ t (V r)) y)) (4 - 0) 0 = decide (W r = tuQ t (V r)) := by
        rw [Bool.eq_iff_iff, fa_iff, decide_eq_true_eq]
        constructor
        · intro h
          exact prt_all fun j hj => by simpa using h j (by omega) (by omega)
        · intro h j _ _
          rw [h]; simp
      have I0 := I none none none
      rw [eI] at I0
      simp (disch := first | assumption | omega | (simp (disch := omega) only [wN, w0, w1]; omega)) only [e23_0, e23_1, e23_4, e23_5, e23_8, e23_11, e23_12, e23_13, e23_14, e23_16, e23_17, e23_20, e23_23, e23_24, e23_28, e23_29, e23_32, e23_34, e23_35, e23_36, e23_38, e23_39, e23_41, e23_43, e23_44, e23_47, e23_48, e23_49, e23_51, e23_54, e23_57, e23_58, e23_59, e23_61, e23_62, e23_63, e23_66, e23_67, e23_69, e23_70, e23_71, e23_73, e23_76, e23_78, e23_79, e23_82, e23_83, e23_84, e23_87, e23_90, e23_93, e23_96, e23_97, kl_I, kl_R, kl_N, kl_L, oSm, oNn, Option.bind_some, wN, if_pos, if_neg, nS, tN, t0, w0, w1, w2, w3, w4, w5, wm1, upA_ne, upA_same, if_true, if_false, Bool.false_eq_true, hN]
      exact I v5 v6 v7 |>.trans (by rw [eI])) 0 (Nat.zero_le _)
    simp (disch := first | assumption | omega | (simp (disch := omega) only [wN, w0, w1]; omega)) only [e23_0, e23_1, e23_4, e23_5, e23_8, e23_11, e23_12, e23_13, e23_14, e23_16, e23_17, e23_20, e23_23, e23_24, e23_28, e23_29, e23_32, e23_34, e23_35, e23_36, e23_38, e23_39, e23_41, e23_43, e23_44, e23_47, e23_48, e23_49, e23_51, e23_54, e23_57, e23_58, e23_59, e23_61, e23_62, e23_63, e23_66, e23_67, e23_69, e23_70, e23_71, e23_73, e23_76, e23_78, e23_79, e23_82, e23_83, e23_84, e23_87, e23_90, e23_93, e23_96, e23_97, kl_I, kl_R, kl_N, kl_L, oSm, oNn, Option.bind_some, wN, if_pos, if_neg, nS, tN, t0, w0, w1, w2, w3, w4, w5, wm1, upA_ne, upA_same, if_true, if_false, Bool.false_eq_true, q23, hp1, hp2]
    refine (A _ _ _ _).trans ?_
    simp [hpw]
  · simp (disch := first | assumption | omega | (simp (disch := omega) only [wN, w0, w1]; omega)) only [e23_0, e23_1, e23_4, e23_5, e23_8, e23_11, e23_12, e23_13, e23_14, e23_16, e23_17, e23_20, e23_23, e23_24, e23_28, e23_29, e23_32, e23_34, e23_35, e23_36, e23_38, e23_39, e23_41, e23_43, e23_44, e23_47, e23_48, e23_49, e23_51, e23_54, e23_57, e23_58, e23_59, e23_61, e23_62, e23_63, e23_66, e23_67, e23_69, e23_70, e23_71, e23_73, e23_76, e23_78, e23_79, e23_82, e23_83, e23_84, e23_87, e23_90, e23_93, e23_96, e23_97, kl_I, kl_R, kl_N, kl_L, oSm, oNn, Option.bind_some, wN, if_pos, if_neg, nS, tN, t0, w0, w1, w2, w3, w4, w5, wm1, upA_ne, upA_same, if_true, if_false, Bool.false_eq_true, q23, hp1, hp2]
theorem C24 (hs : coS sh c) (hV : HV σ (c + 1) W) (hN : σ.1 c 1 = ((2 ^ n : Nat) : Int)) (hn : n ≤ 4) (hb : bdW 1073741824 W) (hs2 : coS sh o) (hV2 : HV σ (o + 1) V) (hN2 : σ.1 o 1 = ((2 ^ n : Nat) : Int)) (hb2 : bdW 1073741824 V) (hp1 : σ.1 c 2 = (s : Int)) (hp2 : σ.1 o 2 = (i : Int)) (hs9 : s < 1000) (hi9 : i < 1000) (hly : lyS sh ly) (hL : HL σ ly n P) (hP : okP n n P) : run sh (d + 2) 24 [mR c, mR o, mR ly] σ = some (some (mI (if s = i ∧ fa (fun y => decide (W (exT P y 4) = V y)) (2 ^ n - 0) 0 = true then 1 else 0)), σ) := by
  have ho := hs.1
  have ho2 := hs2.1
  have ho3 := hly.1
  have h16 : 2 ^ n ≤ 2 ^ 4 := Nat.pow_le_pow_right (by omega) hn
  by_cases hpw : s = i
  · have hpI : (s : Int) = (i : Int) := by rw [hpw]
    have A := for_P (2 ^ n) (fun r => ∀ v4 v5 : Option MV, ev sh (d + 2) 24 15 [some (mR (c)), some (mR (o)), some (mR (ly)), some (mI ((r : Nat) : Int)), v4, v5] [] (σ) = some (some (mI (if fa (fun y => decide (W (exT P y 4) = V y)) (2 ^ n - r) r = true then 1 else 0)), σ)) (by
      intro v4 v5
      show ev sh (d + 2) 24 15 [some (mR (c)), some (mR (o)), some (mR (ly)), some (mI (((2 ^ n) : Nat) : Int)), v4, v5] [] (σ) = some (some (mI (if fa (fun y => decide (W (exT P y 4) = V y)) (2 ^ n - (2 ^ n)) (2 ^ n) = true then 1 else 0)), σ)
      rw [fa_e, e24_15]
      simp (disch := first | assumption | omega | (simp (disch := omega) only [wN, w0, w1]; omega)) only [e24_0, e24_1, e24_4, e24_5, e24_8, e24_11, e24_12, e24_13, e24_14, e24_16, e24_17, e24_20, e24_23, e24_24, e24_26, e24_27, e24_31, e24_32, e24_35, e24_36, e24_38, e24_39, e24_40, e24_41, e24_44, e24_46, e24_47, e24_48, e24_50, e24_53, e24_54, e24_55, e24_57, e24_60, e24_63, e24_64, e24_68, e24_69, e24_72, e24_73, e24_75, e24_77, e24_80, e24_81, e24_82, e24_84, e24_87, e24_88, e24_91, e24_92, e24_93, e24_96, e24_99, e24_102, e24_105, e24_106, kl_I, kl_R, kl_N, kl_L, oSm, oNn, Option.bind_some, wN, if_pos, if_neg, nS, tN, t0, w0, w1, w2, w3, w4, w5, wm1, upA_ne, upA_same, if_true, if_false, Bool.false_eq_true, hN]) (fun r hi ih => by
      replace ih : ∀ v4 v5 : Option MV, ev sh (d + 2) 24 15 [some (mR (c)), some (mR (o)), some (mR (ly)), some (mI (((r + 1) : Nat) : Int)), v4, v5] [] (σ) = some (some (mI (if fa (fun y => decide (W (exT P y 4) = V y)) (2 ^ n - (r + 1)) (r + 1) = true then 1 else 0)), σ) := ih
      intro v4 v5
      show ev sh (d + 2) 24 15 [some (mR (c)), some (mR (o)), some (mR (ly)), some (mI ((r : Nat) : Int)), v4, v5] [] (σ) = some (some (mI (if fa (fun y => decide (W (exT P y 4) = V y)) (2 ^ n - r) r = true then 1 else 0)), σ)
      have hr := hi
      rw [e24_15, fa_s hi]
      have hT := fun l => exT_lt (P := P) hr (fun x hx => hP.1 x hx) l
      have hT4 := hT 4
      have I := for_P (4) (fun j => ev sh (d + 2) 24 66 [some (mR (c)), some (mR (o)), some (mR (ly)), some (mI ((r : Nat) : Int)), some (mI ((exT P r 4 : Nat) : Int)), some (mI ((j : Nat) : Int))] [] (σ) = some (some (mI (if (fa (fun y => decide (prt (W (exT P r 4)) y = prt (V r) y)) (4 - j) j && fa (fun y => decide (W (exT P y 4) = V y)) (2 ^ n - (r + 1)) (r + 1)) = true then 1 else 0)), σ)) (by
        show ev sh (d + 2) 24 66 [some (mR (c)), some (mR (o)), some (mR (ly)), some (mI ((r : Nat) : Int)), some (mI ((exT P r 4 : Nat) : Int)), some (mI (((4) : Nat) : Int))] [] (σ) = some (some (mI (if (fa (fun y => decide (prt (W (exT P r 4)) y = prt (V r) y)) (4 - (4)) (4) && fa (fun y => decide (W (exT P y 4) = V y)) (2 ^ n - (r + 1)) (r + 1)) = true then 1 else 0)), σ)
        rw [fa_e, e24_66]
        simp (disch := first | assumption | omega | (simp (disch := omega) only [wN, w0, w1]; omega)) only [e24_0, e24_1, e24_4, e24_5, e24_8, e24_11, e24_12, e24_13, e24_14, e24_16, e24_17, e24_20, e24_23, e24_24, e24_26, e24_27, e24_31, e24_32, e24_35, e24_36, e24_38, e24_39, e24_40, e24_41, e24_44, e24_46, e24_47, e24_48, e24_50, e24_53, e24_54, e24_55, e24_57, e24_60, e24_63, e24_64, e24_68, e24_69, e24_72, e24_73, e24_75, e24_77, e24_80, e24_81, e24_82, e24_84, e24_87, e24_88, e24_91, e24_92, e24_93, e24_96, e24_99, e24_102, e24_105, e24_106, kl_I, kl_R, kl_N, kl_L, oSm, oNn, Option.bind_some, wN, if_pos, if_neg, nS, tN, t0, w0, w1, w2, w3, w4, w5, wm1, upA_ne, upA_same, if_true, if_false, Bool.false_eq_true]
        exact ih _ _) (fun j hi ih => by
        replace ih : ev sh (d + 2) 24 66 [some (mR (c)), some (mR (o)), some (mR (ly)), some (mI ((r : Nat) : Int)), some (mI ((exT P r 4 : Nat) : Int)), some (mI (((j + 1) : Nat) : Int))] [] (σ) = some (some (mI (if (fa (fun y => decide (prt (W (exT P r 4)) y = prt (V r) y)) (4 - (j + 1)) (j + 1) && fa (fun y => decide (W (exT P y 4) = V y)) (2 ^ n - (r + 1)) (r + 1)) = true then 1 else 0)), σ) := ih
        show ev sh (d + 2) 24 66 [some (mR (c)), some (mR (o)), some (mR (ly)), some (mI ((r : Nat) : Int)), some (mI ((exT P r 4 : Nat) : Int)), some (mI ((j : Nat) : Int))] [] (σ) = some (some (mI (if (fa (fun y => decide (prt (W (exT P r 4)) y = prt (V r) y)) (4 - j) j && fa (fun y => decide (W (exT P y 4) = V y)) (2 ^ n - (r + 1)) (r + 1)) = true then 1 else 0)), σ)
        have b1 := prt_bd (hb (exT P r 4)) j
        have b2 := prt_bd (hb2 r) j
        have lw := lcmp_w (x := prt (W (exT P r 4)) j) (y := prt (V r) j) (by omega) (by omega)
        have a1 := C14 (d := d) hs hV hN h16 hT4 hi
        have a2 := C14 (d := d) hs2 hV2 hN2 h16 hr hi
        rw [e24_66, fa_s hi]
        by_cases he : prt (W (exT P r 4)) j = prt (V r) j
        · have hl := lw.mpr he
          simp (disch := first | assumption | omega | (simp (disch := omega) only [wN, w0, w1]; omega)) only [e24_0, e24_1, e24_4, e24_5, e24_8, e24_11, e24_12, e24_13, e24_14, e24_16, e24_17, e24_20, e24_23, e24_24, e24_26, e24_27, e24_31, e24_32, e24_35, e24_36, e24_38, e24_39, e24_40, e24_41, e24_44, e24_46, e24_47, e24_48, e24_50, e24_53, e24_54, e24_55, e24_57, e24_60, e24_63, e24_64, e24_68, e24_69, e24_72, e24_73, e24_75, e24_77, e24_80, e24_81, e24_82, e24_84, e24_87, e24_88, e24_91, e24_92, e24_93, e24_96, e24_99, e24_102, e24_105, e24_106, kl_I, kl_R, kl_N, kl_L, oSm, oNn, Option.bind_some, wN, if_pos, if_neg, nS, tN, t0, w0, w1, w2, w3, w4, w5, wm1, upA_ne, upA_same, if_true, if_false, Bool.false_eq_true, a1, a2]
          rw [ih]
          simp [he]
        · have hl : ¬ wi (lcmp' (prt (W (exT P r 4)) j) (prt (V r) j)) = 0 := fun z => he (lw.mp z)
          simp (disch := first | assumption | omega | (simp (disch := omega) only [wN, w0, w1]; omega)) only [e24_0, e24_1, e24_4, e24_5, e24_8, e24_11, e24_12, e24_13, e24_14, e24_16, e24_17, e24_20, e24_23, e24_24, e24_26, e24_27, e24_31, e24_32, e24_35, e24_36, e24_38, e24_39, e24_40, e24_41, e24_44, e24_46, e24_47, e24_48, e24_50, e24_53, e24_54, e24_55, e24_57, e24_60, e24_63, e24_64, e24_68, e24_69, e24_72, e24_73, e24_75, e24_77, e24_80, e24_81, e24_82, e24_84, e24_87, e24_88, e24_91, e24_92, e24_93, e24_96, e24_99, e24_102, e24_105, e24_106, kl_I, kl_R, kl_N, kl_L, oSm, oNn, Option.bind_some, wN, if_pos, if_neg, nS, tN, t0, w0, w1, w2, w3, w4, w5, wm1, upA_ne, upA_same, if_true, if_false, Bool.false_eq_true, a1, a2]
          simp [he]) 0 (Nat.zero_le _)
      have eI : fa (fun y => decide (prt (W (exT P r 4)) y = prt (V r) y)) (4 - 0) 0 = decide (W (exT P r 4) = V r) := by
        rw [Bool.eq_iff_iff, fa_iff, decide_eq_true_eq]
        constructor
        · intro h
          exact prt_all fun j hj => by simpa using h j (by omega) (by omega)
        · intro h j _ _
          rw [h]; simp
      have T := for_up (fun l => ev sh (d + 2) 24 29 [some (mR (c)), some (mR (o)), some (mR (ly)), some (mI ((r : Nat) : Int)), some (mI ((exT P r l : Nat) : Int)), some (mI ((l : Nat) : Int))] [] (σ)) (4) (fun l hi => by
        show ev sh (d + 2) 24 29 [some (mR (c)), some (mR (o)), some (mR (ly)), some (mI ((r : Nat) : Int)), some (mI ((exT P r l : Nat) : Int)), some (mI ((l : Nat) : Int))] [] (σ) = ev sh (d + 2) 24 29 [some (mR (c)), some (mR (o)), some (mR (ly)), some (mI ((r : Nat) : Int)), some (mI ((exT P r (l + 1) : Nat) : Int)), some (mI (((l + 1) : Nat) : Int))] [] (σ)
        have hTl := hT l
        have xb := xbit (a := r) (k := l) (by omega) (by omega)
        rw [e24_29]
        by_cases hbt : r.testBit l = true
        · have hln : l < n := by
            rcases Nat.lt_or_ge l n with h1 | h1
            · exact h1
            · rw [bit_ge hr h1] at hbt; cases hbt
          have hPl := hP.1 l hln
          have x1 := xshl_1 (k := P l) (by omega)
          have x2 := xor_nn (a := exT P r l) (b := 2 ^ P l) (by omega) (pw_lt (n := 31) (by omega) (by omega))
          simp (disch := first | assumption | omega | (simp (disch := omega) only [wN, w0, w1]; omega)) only [e24_0, e24_1, e24_4, e24_5, e24_8, e24_11, e24_12, e24_13, e24_14, e24_16, e24_17, e24_20, e24_23, e24_24, e24_26, e24_27, e24_31, e24_32, e24_35, e24_36, e24_38, e24_39, e24_40, e24_41, e24_44, e24_46, e24_47, e24_48, e24_50, e24_53, e24_54, e24_55, e24_57, e24_60, e24_63, e24_64, e24_68, e24_69, e24_72, e24_73, e24_75, e24_77, e24_80, e24_81, e24_82, e24_84, e24_87, e24_88, e24_91, e24_92, e24_93, e24_96, e24_99, e24_102, e24_105, e24_106, kl_I, kl_R, kl_N, kl_L, oSm, oNn, Option.bind_some, wN, if_pos, if_neg, nS, tN, t0, w0, w1, w2, w3, w4, w5, wm1, upA_ne, upA_same, if_true, if_false, Bool.false_eq_true, xb, hbt, Y77 hly hL hn hln, x1, x2, exT]
        · simp (disch := first | assumption | omega | (simp (disch := omega) only [wN, w0, w1]; omega)) only [e24_0, e24_1, e24_4, e24_5, e24_8, e24_11, e24_12, e24_13, e24_14, e24_16, e24_17, e24_20, e24_23, e24_24, e24_26, e24_27, e24_31, e24_32, e24_35, e24_36, e24_38, e24_39, e24_40, e24_41, e24_44, e24_46, e24_47, e24_48, e24_50, e24_53, e24_54, e24_55, e24_57, e24_60, e24_63, e24_64, e24_68, e24_69, e24_72, e24_73, e24_75, e24_77, e24_80, e24_81, e24_82, e24_84, e24_87, e24_88, e24_91, e24_92, e24_93, e24_96, e24_99, e24_102, e24_105, e24_106, kl_I, kl_R, kl_N, kl_L, oSm, oNn, Option.bind_some, wN, if_pos, if_neg, nS, tN, t0, w0, w1, w2, w3, w4, w5, wm1, upA_ne, upA_same, if_true, if_false, Bool.false_eq_true, xb, hbt, exT]) 0 (Nat.zero_le _)
      simp (disch := first | assumption | omega | (simp (disch := omega) only [wN, w0, w1]; omega)) only [e24_0, e24_1, e24_4, e24_5, e24_8, e24_11, e24_12, e24_13, e24_14, e24_16, e24_17, e24_20, e24_23, e24_24, e24_26, e24_27, e24_31, e24_32, e24_35, e24_36, e24_38, e24_39, e24_40, e24_41, e24_44, e24_46, e24_47, e24_48, e24_50, e24_53, e24_54, e24_55, e24_57, e24_60, e24_63, e24_64, e24_68, e24_69, e24_72, e24_73, e24_75, e24_77, e24_80, e24_81, e24_82, e24_84, e24_87, e24_88, e24_91, e24_92, e24_93, e24_96, e24_99, e24_102, e24_105, e24_106, kl_I, kl_R, kl_N, kl_L, oSm, oNn, Option.bind_some, wN, if_pos, if_neg, nS, tN, t0, w0, w1, w2, w3, w4, w5, wm1, upA_ne, upA_same, if_true, if_false, Bool.false_eq_true, hN]
      refine T.trans ?_
      show ev sh (d + 2) 24 29 [some (mR (c)), some (mR (o)), some (mR (ly)), some (mI ((r : Nat) : Int)), some (mI ((exT P r 4 : Nat) : Int)), some (mI ((4 : Nat) : Int))] [] σ = _
      rw [e24_29]
      simp (disch := first | assumption | omega | (simp (disch := omega) only [wN, w0, w1]; omega)) only [e24_0, e24_1, e24_4, e24_5, e24_8, e24_11, e24_12, e24_13, e24_14, e24_16, e24_17, e24_20, e24_23, e24_24, e24_26, e24_27, e24_31, e24_32, e24_35, e24_36, e24_38, e24_39, e24_40, e24_41, e24_44, e24_46, e24_47, e24_48, e24_50, e24_53, e24_54, e24_55, e24_57, e24_60, e24_63, e24_64, e24_68, e24_69, e24_72, e24_73, e24_75, e24_77, e24_80, e24_81, e24_82, e24_84, e24_87, e24_88, e24_91, e24_92, e24_93, e24_96, e24_99, e24_102, e24_105, e24_106, kl_I, kl_R, kl_N, kl_L, oSm, oNn, Option.bind_some, wN, if_pos, if_neg, nS, tN, t0, w0, w1, w2, w3, w4, w5, wm1, upA_ne, upA_same, if_true, if_false, Bool.false_eq_true]
      exact I.trans (by rw [eI])) 0 (Nat.zero_le _)
    simp (disch := first | assumption | omega | (simp (disch := omega) only [wN, w0, w1]; omega)) only [e24_0, e24_1, e24_4, e24_5, e24_8, e24_11, e24_12, e24_13, e24_14, e24_16, e24_17, e24_20, e24_23, e24_24, e24_26, e24_27, e24_31, e24_32, e24_35, e24_36, e24_38, e24_39, e24_40, e24_41, e24_44, e24_46, e24_47, e24_48, e24_50, e24_53, e24_54, e24_55, e24_57, e24_60, e24_63, e24_64, e24_68, e24_69, e24_72, e24_73, e24_75, e24_77, e24_80, e24_81, e24_82, e24_84, e24_87, e24_88, e24_91, e24_92, e24_93, e24_96, e24_99, e24_102, e24_105, e24_106, kl_I, kl_R, kl_N, kl_L, oSm, oNn, Option.bind_some, wN, if_pos, if_neg, nS, tN, t0, w0, w1, w2, w3, w4, w5, wm1, upA_ne, upA_same, if_true, if_false, Bool.false_eq_true, q24, hp1, hp2]
    refine (A _ _).trans ?_
    simp [hpw]
  · simp (disch := first | assumption | omega | (simp (disch := omega) only [wN, w0, w1]; omega)) only [e24_0, e24_1, e24_4, e24_5, e24_8, e24_11, e24_12, e24_13, e24_14, e24_16, e24_17, e24_20, e24_23, e24_24, e24_26, e24_27, e24_31, e24_32, e24_35, e24_36, e24_38, e24_39, e24_40, e24_41, e24_44, e24_46, e24_47, e24_48, e24_50, e24_53, e24_54, e24_55, e24_57, e24_60, e24_63, e24_64, e24_68, e24_69, e24_72, e24_73, e24_75, e24_77, e24_80, e24_81, e24_82, e24_84, e24_87, e24_88, e24_91, e24_92, e24_93, e24_96, e24_99, e24_102, e24_105, e24_106, kl_I, kl_R, kl_N, kl_L, oSm, oNn, Option.bind_some, wN, if_pos, if_neg, nS, tN, t0, w0, w1, w2, w3, w4, w5, wm1, upA_ne, upA_same, if_true, if_false, Bool.false_eq_true, q24, hp1, hp2]
end COE
