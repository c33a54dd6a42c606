/-! ===== the reference: place, seed, spend, count, feed ===== -/
theorem xand_e255 (x : Int) : xand x 255 = x % 256 := by
  have h : ((Int32.ofInt x).toBitVec &&& 255#32).toNat = (x % 256).toNat := by
    rw [BitVec.toNat_and]
    show (BitVec.ofInt 32 x).toNat &&& 255 = _
    rw [BitVec.toNat_ofInt, show (255 : Nat) = 2 ^ 8 - 1 from rfl, Nat.and_two_pow_sub_one_eq_mod]
    omega
  show ((Int32.ofInt x).toBitVec &&& 255#32).toInt = _
  rw [BitVec.toInt_eq_toNat_of_lt (by rw [h]; omega), h]
  omega
theorem xi2b_m (x : Int) : xi2b x % 256 = x % 256 := by
  unfold xi2b
  rw [Int32.toInt_toInt8, Int32.toInt_ofInt]
  simp only [Int.bmod]
  have e1 : ((Int32.size : Nat) : Int) = 4294967296 := rfl
  have e2 : (((2 ^ 8 : Nat)) : Int) = 256 := rfl
  rw [e1, e2]
  repeat' split
  all_goals omega
theorem xand_b (x : Int) : xand (xi2b x) 255 = xand x 255 := by rw [xand_e255, xand_e255, xi2b_m]
theorem HMo.q {σ σ' : Mem} {t f l p : Nat} {S : SB} (h : HMo σ t f l p S) (ha : ∀ b, b = 125 ∨ b = 126 ∨ b = l ∨ b = l + 1 ∨ b = p → σ'.1 b = σ.1 b) (hf : ∀ i, f ≤ i → i ≤ f + 3 → σ'.1 124 i = σ.1 124 i) : HMo σ' t f l p S := by
  obtain ⟨h1, h2, h3, h4, h5, h6, h7, h8⟩ := h
  exact ⟨h1.k (by rw [ha 126 (by omega)]) (fun i _ _ => by rw [ha 125 (by omega)]), by rw [hf _ (by omega) (by omega)]; exact h2, by rw [hf _ (by omega) (by omega)]; exact h3, by rw [hf _ (by omega) (by omega)]; exact h4, by rw [hf _ (by omega) (by omega)]; exact h5, fun j hj => by rw [ha l (by omega), ha (l + 1) (by omega)]; exact h6 j hj, fun y hy => by rw [ha p (by omega)]; exact h7 y hy, h8⟩
section ME
variable {sh : Shp} {σ σ' : Mem} {a : AX}
theorem InvM.tim {T : Nat → Nat} (h : InvM sh σ a) (hk : ∀ b, b ≠ 157 → σ'.1 b = σ.1 b) (hT : HT sh σ' 157 T) : InvM sh σ' (a.1, a.2.1, a.2.2.1, a.2.2.2.1, T) := by
  obtain ⟨i1, i2, i3, i4, i5, i6⟩ := h
  exact ⟨i1.q (fun b hb => hk b (by omega)) (fun i _ _ => by rw [hk 124 (by omega)]), by rw [hk 124 (by omega)]; exact i2, fun S hS => (i3 S hS).q (fun b hb => hk b (by omega)) (fun i _ _ => by rw [hk 124 (by omega)]), ⟨by rw [hk 124 (by omega)]; exact i4.1, fun j hj => by rw [hk 133 (by omega)]; exact i4.2 j hj⟩, i5, hT⟩
theorem InvM.tap {B : Nat → Nat} {s : Nat} (h : InvM sh σ a) (hk : ∀ b, 125 ≤ b → b ≤ 157 → b ≠ 133 → (b < 134 ∨ b = 157) → σ'.1 b = σ.1 b) (hf : ∀ i, i < 21 → σ'.1 124 i = σ.1 124 i) (hP : HPm σ' B s) (hs : s ≤ 140) : InvM sh σ' (a.1, a.2.1, B, s, a.2.2.2.2) := by
  obtain ⟨i1, i2, i3, i4, i5, i6⟩ := h
  exact ⟨i1.q (fun b hb => hk b (by omega) (by omega) (by omega) (by omega)) (fun i _ _ => hf i (by omega)), by rw [hf 16 (by omega)]; exact i2, fun S hS => (i3 S hS).q (fun b hb => hk b (by omega) (by omega) (by omega) (by omega)) (fun i _ _ => hf i (by omega)), hP, hs, i6.k (hk 157 (by omega) (by omega) (by omega) (by omega))⟩
end ME
section ME
variable {sh : Shp} {d t g n : Nat} {σ : Mem} {a : AX} {z w v u : Int} {c : List Gt}
theorem M282 (hM : MS sh) (h : InvM sh σ a) (hw' : i32 w) : run sh d 282 [mR 124, mI w] σ = some (some (mI (aCount a w)), σ) := by
  have mo := hM.1
  have m160 := hM.2.1
  obtain ⟨ra1, rk1, rl1⟩ := ms1 hM
  obtain ⟨⟨n, c, m, E, P, x⟩, K, B, s, T⟩ := a
  obtain ⟨⟨hG, hN, hMp, hEl, hx0, hE, hP, hoS⟩, hik, hKp, hTp, h140, hTm⟩ := id h
  replace hG : HGm σ 0 c := hG
  replace hN : σ.1 124 8 = (n : Int) := hN
  replace hMp : σ.1 124 9 = (m : Int) := hMp
  replace hEl : σ.1 124 10 = (E.length : Int) := hEl
  replace hx0 : σ.1 124 11 = (x : Int) := hx0
  replace hE : HEm σ 127 128 E := hE
  replace hP : ∀ y, y < n → σ.1 129 y = (P y : Int) := hP
  replace hoS : okZ n c m E P x := hoS
  replace hTp : HPm σ B s := hTp
  replace h140 : s ≤ 140 := h140
  replace hTm : HT sh σ 157 T := hTm
  replace hik : σ.1 124 16 = bi K.isSome := hik
  obtain ⟨n1, n4', c30, hv, m2, m5, E10, hvE, hPk, x16⟩ := id hoS
  have ww := hw'.w
  have e1 := hG.1
  have e2 := hTp.1
  show _ = some (some (mI (aCount ((n, c, m, E, P, x), K, B, s, T) w)), σ)
  unfold aCount
  simp only
  by_cases h0 : w = 0
  · simp (disch := first | assumption | omega | (simp (disch := omega) only [wN, w0, w1]; omega)) only [e282_0, e282_1, e282_4, e282_5, e282_8, e282_9, e282_10, e282_13, e282_14, e282_15, e282_18, e282_19, e282_22, e282_25, e282_26, e282_27, e282_30, e282_31, e282_34, e282_37, e282_38, e282_39, e282_42, e282_43, e282_46, e282_49, e282_50, kl_I, kl_R, kl_N, kl_L, oSm, oNn, Option.bind_some, wN, if_pos, if_neg, nS, tN, t0, w0, w1, w2, w3, w4, w5, wm1, upA_ne, upA_same, if_true, if_false, Bool.false_eq_true, q282, ww, ra1, rl1, e1]
  · by_cases h1 : w = 1
    · simp (disch := first | assumption | omega | (simp (disch := omega) only [wN, w0, w1]; omega)) only [e282_0, e282_1, e282_4, e282_5, e282_8, e282_9, e282_10, e282_13, e282_14, e282_15, e282_18, e282_19, e282_22, e282_25, e282_26, e282_27, e282_30, e282_31, e282_34, e282_37, e282_38, e282_39, e282_42, e282_43, e282_46, e282_49, e282_50, kl_I, kl_R, kl_N, kl_L, oSm, oNn, Option.bind_some, wN, if_pos, if_neg, nS, tN, t0, w0, w1, w2, w3, w4, w5, wm1, upA_ne, upA_same, if_true, if_false, Bool.false_eq_true, q282, ww, hN]
    · by_cases h2 : w = 2
      · simp (disch := first | assumption | omega | (simp (disch := omega) only [wN, w0, w1]; omega)) only [e282_0, e282_1, e282_4, e282_5, e282_8, e282_9, e282_10, e282_13, e282_14, e282_15, e282_18, e282_19, e282_22, e282_25, e282_26, e282_27, e282_30, e282_31, e282_34, e282_37, e282_38, e282_39, e282_42, e282_43, e282_46, e282_49, e282_50, kl_I, kl_R, kl_N, kl_L, oSm, oNn, Option.bind_some, wN, if_pos, if_neg, nS, tN, t0, w0, w1, w2, w3, w4, w5, wm1, upA_ne, upA_same, if_true, if_false, Bool.false_eq_true, q282, ww, e2]
      · by_cases h3 : w = 3
        · simp (disch := first | assumption | omega | (simp (disch := omega) only [wN, w0, w1]; omega)) only [e282_0, e282_1, e282_4, e282_5, e282_8, e282_9, e282_10, e282_13, e282_14, e282_15, e282_18, e282_19, e282_22, e282_25, e282_26, e282_27, e282_30, e282_31, e282_34, e282_37, e282_38, e282_39, e282_42, e282_43, e282_46, e282_49, e282_50, kl_I, kl_R, kl_N, kl_L, oSm, oNn, Option.bind_some, wN, if_pos, if_neg, nS, tN, t0, w0, w1, w2, w3, w4, w5, wm1, upA_ne, upA_same, if_true, if_false, Bool.false_eq_true, q282, ww, hx0]
        · simp (disch := first | assumption | omega | (simp (disch := omega) only [wN, w0, w1]; omega)) only [e282_0, e282_1, e282_4, e282_5, e282_8, e282_9, e282_10, e282_13, e282_14, e282_15, e282_18, e282_19, e282_22, e282_25, e282_26, e282_27, e282_30, e282_31, e282_34, e282_37, e282_38, e282_39, e282_42, e282_43, e282_46, e282_49, e282_50, kl_I, kl_R, kl_N, kl_L, oSm, oNn, Option.bind_some, wN, if_pos, if_neg, nS, tN, t0, w0, w1, w2, w3, w4, w5, wm1, upA_ne, upA_same, if_true, if_false, Bool.false_eq_true, q282, ww]
theorem M278 (hM : MS sh) (h : InvM sh σ a) (hz : i32 z) : End (run sh (d + 1) 278 [mR 124, mI z] σ) (fun r σ' => r = some (mI (aSeed a z).1) ∧ InvM sh σ' (aSeed a z).2) := by
  have h00 := h
  have mo := hM.1
  have m160 := hM.2.1
  obtain ⟨⟨n, c, m, E, P, x⟩, K, B, s, T⟩ := a
  obtain ⟨⟨hG, hN, hMp, hEl, hx0, hE, hP, hoS⟩, hik, hKp, hTp, h140, hTm⟩ := id h
  replace hG : HGm σ 0 c := hG
  replace hN : σ.1 124 8 = (n : Int) := hN
  replace hMp : σ.1 124 9 = (m : Int) := hMp
  replace hEl : σ.1 124 10 = (E.length : Int) := hEl
  replace hx0 : σ.1 124 11 = (x : Int) := hx0
  replace hE : HEm σ 127 128 E := hE
  replace hP : ∀ y, y < n → σ.1 129 y = (P y : Int) := hP
  replace hoS : okZ n c m E P x := hoS
  replace hTp : HPm σ B s := hTp
  replace h140 : s ≤ 140 := h140
  replace hTm : HT sh σ 157 T := hTm
  replace hik : σ.1 124 16 = bi K.isSome := hik
  obtain ⟨n1, n4', c30, hv, m2, m5, E10, hvE, hPk, x16⟩ := id hoS
  have e := E164 (sh := sh) (d := d) (σ := σ) (z := z) (w := 0) (v := 65535) hz ⟨by omega, by omega⟩ ⟨by omega, by omega⟩
  unfold aSeed
  by_cases h1 : z < 0 ∨ 65535 < z
  · rw [if_pos h1]
    rw [if_neg (by omega)] at e
    simp (disch := first | assumption | omega | (simp (disch := omega) only [wN, w0, w1]; omega)) only [e278_0, e278_1, e278_2, e278_5, e278_8, e278_11, e278_12, e278_13, e278_14, e278_15, e278_18, e278_19, kl_I, kl_R, kl_N, kl_L, oSm, oNn, Option.bind_some, wN, if_pos, if_neg, nS, tN, t0, w0, w1, w2, w3, w4, w5, wm1, upA_ne, upA_same, if_true, if_false, Bool.false_eq_true, q278, e]
    exact End.of rfl ⟨rfl, h⟩
  · rw [if_neg h1]
    rw [if_pos (by omega)] at e
    obtain ⟨k, rfl⟩ : ∃ k : Nat, z = (k : Int) := ⟨z.toNat, by omega⟩
    simp only [Int.toNat_natCast]
    simp (disch := first | assumption | omega | (simp (disch := omega) only [wN, w0, w1]; omega)) only [e278_0, e278_1, e278_2, e278_5, e278_8, e278_11, e278_12, e278_13, e278_14, e278_15, e278_18, e278_19, kl_I, kl_R, kl_N, kl_L, oSm, oNn, Option.bind_some, wN, if_pos, if_neg, nS, tN, t0, w0, w1, w2, w3, w4, w5, wm1, upA_ne, upA_same, if_true, if_false, Bool.false_eq_true, q278, e]
    refine End.of rfl ⟨rfl, h00.now ⟨?_, ?_, ?_, ?_, ?_, fun j hj => ?_, fun y hy => ?_, ⟨n1, n4', c30, hv, m2, m5, E10, hvE, hPk, by show k < 65536; omega⟩⟩ (fun i p1 p2 => ?_) (fun i p1 p2 => ?_) ?_ (fun b p1 p2 => ?_) ?_⟩
    · exact hG.k (by simp (disch := omega) only [upA_ne]) (fun i _ _ => by simp (disch := omega) only [upA_ne])
    all_goals simp (disch := omega) only [upA_same, upA_ne, up1_ne, up1_same]
    · exact hN
    · exact hMp
    · exact hEl
    · exact hE j hj
    · exact hP y hy
theorem M273 (hM : MS sh) (h : InvM sh σ a) (hz : i32 z) (hw' : i32 w) : End (run sh (d + 1) 273 [mR 124, mI z, mI w] σ) (fun r σ' => r = some (mI (aSpend a z w).1) ∧ InvM sh σ' (aSpend a z w).2) := by
  have h00 := h
  have mo := hM.1
  have m160 := hM.2.1
  obtain ⟨ra56, rk56, rl56⟩ := ms56 hM
  obtain ⟨⟨n, c, m, E, P, x⟩, K, B, s, T⟩ := a
  obtain ⟨⟨hG, hN, hMp, hEl, hx0, hE, hP, hoS⟩, hik, hKp, hTp, h140, hTm⟩ := id h
  replace hG : HGm σ 0 c := hG
  replace hN : σ.1 124 8 = (n : Int) := hN
  replace hMp : σ.1 124 9 = (m : Int) := hMp
  replace hEl : σ.1 124 10 = (E.length : Int) := hEl
  replace hx0 : σ.1 124 11 = (x : Int) := hx0
  replace hE : HEm σ 127 128 E := hE
  replace hP : ∀ y, y < n → σ.1 129 y = (P y : Int) := hP
  replace hoS : okZ n c m E P x := hoS
  replace hTp : HPm σ B s := hTp
  replace h140 : s ≤ 140 := h140
  replace hTm : HT sh σ 157 T := hTm
  replace hik : σ.1 124 16 = bi K.isSome := hik
  obtain ⟨n1, n4', c30, hv, m2, m5, E10, hvE, hPk, x16⟩ := id hoS
  have wz := hz.w
  have e1 := E164 (sh := sh) (d := d) (σ := σ) (z := z) (w := 0) (v := 5) hz ⟨by omega, by omega⟩ ⟨by omega, by omega⟩
  have e2 := E164 (sh := sh) (d := d) (σ := σ) (z := w) (w := 1) (v := 20) hw' ⟨by omega, by omega⟩ ⟨by omega, by omega⟩
  unfold aSpend
  by_cases h1 : z < 0 ∨ 6 ≤ z
  · rw [if_pos (by omega)]
    rw [if_neg (by omega)] at e1
    simp (disch := first | assumption | omega | (simp (disch := omega) only [wN, w0, w1]; omega)) only [e273_0, e273_1, e273_2, e273_3, e273_6, e273_9, e273_10, e273_11, e273_13, e273_16, e273_19, e273_20, e273_21, e273_22, e273_25, e273_26, e273_27, e273_28, e273_29, kl_I, kl_R, kl_N, kl_L, oSm, oNn, Option.bind_some, wN, if_pos, if_neg, nS, tN, t0, w0, w1, w2, w3, w4, w5, wm1, upA_ne, upA_same, if_true, if_false, Bool.false_eq_true, q273, e1]
    exact End.of rfl ⟨rfl, h⟩
  · rw [if_pos (by omega)] at e1
    by_cases h2 : w < 1 ∨ 20 < w
    · rw [if_pos (by omega)]
      rw [if_neg (by omega)] at e2
      simp (disch := first | assumption | omega | (simp (disch := omega) only [wN, w0, w1]; omega)) only [e273_0, e273_1, e273_2, e273_3, e273_6, e273_9, e273_10, e273_11, e273_13, e273_16, e273_19, e273_20, e273_21, e273_22, e273_25, e273_26, e273_27, e273_28, e273_29, kl_I, kl_R, kl_N, kl_L, oSm, oNn, Option.bind_some, wN, if_pos, if_neg, nS, tN, t0, w0, w1, w2, w3, w4, w5, wm1, upA_ne, upA_same, if_true, if_false, Bool.false_eq_true, q273, e1, e2]
      exact End.of rfl ⟨rfl, h⟩
    · rw [if_neg (by omega)]
      rw [if_pos (by omega)] at e2
      obtain ⟨k, rfl⟩ : ∃ k : Nat, z = (k : Int) := ⟨z.toNat, by omega⟩
      obtain ⟨t, rfl⟩ : ∃ t : Nat, w = (t : Int) := ⟨w.toNat, by omega⟩
      simp only [Int.toNat_natCast]
      simp (disch := first | assumption | omega | (simp (disch := omega) only [wN, w0, w1]; omega)) only [e273_0, e273_1, e273_2, e273_3, e273_6, e273_9, e273_10, e273_11, e273_13, e273_16, e273_19, e273_20, e273_21, e273_22, e273_25, e273_26, e273_27, e273_28, e273_29, kl_I, kl_R, kl_N, kl_L, oSm, oNn, Option.bind_some, wN, if_pos, if_neg, nS, tN, t0, w0, w1, w2, w3, w4, w5, wm1, upA_ne, upA_same, if_true, if_false, Bool.false_eq_true, q273, e1, e2, ra56, rl56]
      have i6 := h00.2.2.2.2.2
      refine End.of rfl ⟨rfl, h00.tim (fun b hb => upA_ne hb) ⟨i6.1, i6.2.1, fun j hj => ?_⟩⟩
      simp only [upA_same]
      by_cases e : j = k
      · subst e
        simp only [up1_same, if_true]
        exact ⟨trivial, by omega⟩
      · simp only [up1_ne e, if_neg e]
        exact i6.2.2 j hj
theorem M195 (hM : MS sh) (h : InvM sh σ a) (hz : i32 z) (hw' : i32 w) : End (run sh (d + 2) 195 [mR 124, mI z, mI w] σ) (fun r σ' => r = some (mI (aPlace a z w).1) ∧ InvM sh σ' (aPlace a z w).2) := by
  have h00 := h
  have mo := hM.1
  have m160 := hM.2.1
  obtain ⟨ra4, rk4, rl4⟩ := ms4 hM
  obtain ⟨⟨n, c, m, E, P, x⟩, K, B, s, T⟩ := a
  obtain ⟨⟨hG, hN, hMp, hEl, hx0, hE, hP, hoS⟩, hik, hKp, hTp, h140, hTm⟩ := id h
  replace hG : HGm σ 0 c := hG
  replace hN : σ.1 124 8 = (n : Int) := hN
  replace hMp : σ.1 124 9 = (m : Int) := hMp
  replace hEl : σ.1 124 10 = (E.length : Int) := hEl
  replace hx0 : σ.1 124 11 = (x : Int) := hx0
  replace hE : HEm σ 127 128 E := hE
  replace hP : ∀ y, y < n → σ.1 129 y = (P y : Int) := hP
  replace hoS : okZ n c m E P x := hoS
  replace hTp : HPm σ B s := hTp
  replace h140 : s ≤ 140 := h140
  replace hTm : HT sh σ 157 T := hTm
  replace hik : σ.1 124 16 = bi K.isSome := hik
  obtain ⟨n1, n4', c30, hv, m2, m5, E10, hvE, hPk, x16⟩ := id hoS
  have wz := hz.w
  have ww := hw'.w
  have l1 := M188 (d := d) (z := z) hM hN n1 n4' hz
  have l2 := M189 (d := d) (z := w) hM hMp m5 hw'
  unfold aPlace
  by_cases g1 : 0 ≤ z ∧ z < n
  · rw [if_pos g1] at l1
    by_cases g2 : 0 ≤ w ∧ w < m
    · rw [if_pos g2] at l2
      by_cases g3 : m < n
      · rw [if_pos (Or.inr (Or.inr g3))]
        simp (disch := first | assumption | omega | (simp (disch := omega) only [wN, w0, w1]; omega)) only [e195_0, e195_1, e195_2, e195_5, e195_8, e195_9, e195_10, e195_13, e195_16, e195_17, e195_20, e195_21, e195_24, e195_27, e195_28, e195_29, e195_30, e195_32, e195_33, e195_36, e195_39, e195_40, e195_43, e195_44, e195_45, e195_46, e195_49, e195_50, e195_53, e195_54, e195_55, e195_58, e195_59, e195_60, e195_61, e195_64, e195_67, e195_68, e195_71, e195_72, e195_73, e195_74, e195_75, kl_I, kl_R, kl_N, kl_L, oSm, oNn, Option.bind_some, wN, if_pos, if_neg, nS, tN, t0, w0, w1, w2, w3, w4, w5, wm1, upA_ne, upA_same, if_true, if_false, Bool.false_eq_true, q195, l1, l2, hN, hMp]
        exact End.of rfl ⟨rfl, h⟩
      · rw [if_neg (by simp only; omega)]
        obtain ⟨l, rfl⟩ : ∃ k : Nat, z = (k : Int) := ⟨z.toNat, by omega⟩
        obtain ⟨q, rfl⟩ : ∃ k : Nat, w = (k : Int) := ⟨w.toNat, by omega⟩
        have hPo := hPk (by omega)
        have hl5 := hPo.1 l (by omega)
        simp only [Int.toNat_natCast]
        have L := for_P (n) (fun i => ∀ (σ1 : Mem), (frW 129 129 1 0 σ σ1 ∧ (∀ y, y < n → σ1.1 129 y = ((if y < i ∧ P y = q then P l else P y : Nat) : Int))) → End (ev sh (d + 2) 195 31 [some (mR (124)), some (mI ((l : Nat) : Int)), some (mI ((q : Nat) : Int)), some (mI ((i : Nat) : Int))] [] σ1) (fun r σ' => r = some (mI 1) ∧ InvM sh σ' ((n, c, m, E, swP (P l) q P, x), K, B, s, T))) (by
          intro σ1  hp
          replace hp : frW 129 129 1 0 σ σ1 ∧ (∀ y, y < n → σ1.1 129 y = ((if y < (n) ∧ P y = q then P l else P y : Nat) : Int)) := hp
          show End (ev sh (d + 2) 195 31 [some (mR (124)), some (mI ((l : Nat) : Int)), some (mI ((q : Nat) : Int)), some (mI (((n) : Nat) : Int))] [] σ1) (fun r σ' => r = some (mI 1) ∧ InvM sh σ' ((n, c, m, E, swP (P l) q P, x), K, B, s, T))
          obtain ⟨hf, hc⟩ := hp
          have hn1 : σ1.1 124 8 = (n : Int) := by rw [hf.2 8 (by omega)]; exact hN
          rw [e195_31]
          simp (disch := first | assumption | omega | (simp (disch := omega) only [wN, w0, w1]; omega)) only [e195_0, e195_1, e195_2, e195_5, e195_8, e195_9, e195_10, e195_13, e195_16, e195_17, e195_20, e195_21, e195_24, e195_27, e195_28, e195_29, e195_30, e195_32, e195_33, e195_36, e195_39, e195_40, e195_43, e195_44, e195_45, e195_46, e195_49, e195_50, e195_53, e195_54, e195_55, e195_58, e195_59, e195_60, e195_61, e195_64, e195_67, e195_68, e195_71, e195_72, e195_73, e195_74, e195_75, kl_I, kl_R, kl_N, kl_L, oSm, oNn, Option.bind_some, wN, if_pos, if_neg, nS, tN, t0, w0, w1, w2, w3, w4, w5, wm1, upA_ne, upA_same, if_true, if_false, Bool.false_eq_true, hn1, ra4, rl4]
          refine End.of rfl ⟨rfl, ?_⟩
          have hk : ∀ b, b ≠ 129 → b ≠ 124 → (upA σ1.1 129 (up1 (σ1.1 129) l (q : Int)), σ1.2).1 b = σ.1 b := fun b hb hb2 => (upA_ne hb).trans (hf.1 b (by omega) hb2).1
          have hk4 : ∀ i, (upA σ1.1 129 (up1 (σ1.1 129) l (q : Int)), σ1.2).1 124 i = σ.1 124 i := fun i => by
            simp (disch := omega) only [upA_ne]
            exact hf.2 i (by omega)
          have h9 : ∀ y, y < n → (upA σ1.1 129 (up1 (σ1.1 129) l (q : Int)), σ1.2).1 129 y = ((swP (P l) q P y : Nat) : Int) := by
            intro y hy
            simp only [upA_same]
            unfold swP
            by_cases e : y = l
            · subst e
              rw [up1_same, if_pos rfl]
            · rw [up1_ne e, hc y hy]
              have hne : P y ≠ P l := fun e2 => e (hPo.2 y l hy (by omega) e2)
              rw [if_neg hne]
              by_cases e2 : P y = q
              · rw [if_pos ⟨hy, e2⟩, if_pos e2]
              · rw [if_neg (fun z => e2 z.2), if_neg e2]
          generalize (upA σ1.1 129 (up1 (σ1.1 129) l (q : Int)), σ1.2) = σ2 at hk hk4 h9 ⊢
          exact h00.now ⟨hG.k (by rw [hk _ (by omega) (by omega)]) (fun i _ _ => by rw [hk _ (by omega) (by omega)]), by rw [hk4]; exact hN, by rw [hk4]; exact hMp, by rw [hk4]; exact hEl, by rw [hk4]; exact hx0, fun j hj => by rw [hk 127 (by omega) (by omega), hk (127 + 1) (by omega) (by omega)]; exact hE j hj, h9, ⟨n1, n4', c30, hv, m2, m5, E10, hvE, fun _ => hPo.sw hl5 (show q < m by omega), x16⟩⟩ (fun i p1 p2 => hk4 i) (fun i p1 p2 => by rw [hk 125 (by omega) (by omega)]) (by rw [hk 126 (by omega) (by omega)]) (fun b p1 p2 => hk b (by omega) (by omega)) (hk 157 (by omega) (by omega))) (fun i hi ih => by
          replace ih : ∀ (σ1 : Mem), (frW 129 129 1 0 σ σ1 ∧ (∀ y, y < n → σ1.1 129 y = ((if y < (i + 1) ∧ P y = q then P l else P y : Nat) : Int))) → End (ev sh (d + 2) 195 31 [some (mR (124)), some (mI ((l : Nat) : Int)), some (mI ((q : Nat) : Int)), some (mI (((i + 1) : Nat) : Int))] [] σ1) (fun r σ' => r = some (mI 1) ∧ InvM sh σ' ((n, c, m, E, swP (P l) q P, x), K, B, s, T)) := ih
          intro σ1  hp
          replace hp : frW 129 129 1 0 σ σ1 ∧ (∀ y, y < n → σ1.1 129 y = ((if y < i ∧ P y = q then P l else P y : Nat) : Int)) := hp
          show End (ev sh (d + 2) 195 31 [some (mR (124)), some (mI ((l : Nat) : Int)), some (mI ((q : Nat) : Int)), some (mI ((i : Nat) : Int))] [] σ1) (fun r σ' => r = some (mI 1) ∧ InvM sh σ' ((n, c, m, E, swP (P l) q P, x), K, B, s, T))
          obtain ⟨hf, hc⟩ := hp
          have hn1 : σ1.1 124 8 = (n : Int) := by rw [hf.2 8 (by omega)]; exact hN
          have ci := hc i hi
          rw [if_neg (fun z => by omega)] at ci
          have hPi := hPo.1 i hi
          have cl := hc l (by omega)
          have cl2 : σ1.1 129 l = (P l : Int) := by
            rw [cl]
            split <;> rfl
          rw [e195_31]
          by_cases e : P i = q
          · have eI : (P i : Int) = (q : Int) := by rw [e]
            simp (disch := first | assumption | omega | (simp (disch := omega) only [wN, w0, w1]; omega)) only [e195_0, e195_1, e195_2, e195_5, e195_8, e195_9, e195_10, e195_13, e195_16, e195_17, e195_20, e195_21, e195_24, e195_27, e195_28, e195_29, e195_30, e195_32, e195_33, e195_36, e195_39, e195_40, e195_43, e195_44, e195_45, e195_46, e195_49, e195_50, e195_53, e195_54, e195_55, e195_58, e195_59, e195_60, e195_61, e195_64, e195_67, e195_68, e195_71, e195_72, e195_73, e195_74, e195_75, kl_I, kl_R, kl_N, kl_L, oSm, oNn, Option.bind_some, wN, if_pos, if_neg, nS, tN, t0, w0, w1, w2, w3, w4, w5, wm1, upA_ne, upA_same, if_true, if_false, Bool.false_eq_true, hn1, ra4, rl4, ci, cl2]
            refine ih _ ⟨hf.tr (frW.a (by omega) (by omega)), fun y hy => ?_⟩
            simp only [upA_same]
            by_cases e2 : y = i
            · subst e2
              rw [up1_same, if_pos ⟨by omega, e⟩]
            · rw [up1_ne e2, hc y hy]
              by_cases e3 : y < i ∧ P y = q
              · rw [if_pos e3, if_pos ⟨by omega, e3.2⟩]
              · rw [if_neg e3, if_neg (fun z => e3 ⟨by omega, z.2⟩)]
          · have eI : ¬ (P i : Int) = (q : Int) := fun z => e (by omega)
            simp (disch := first | assumption | omega | (simp (disch := omega) only [wN, w0, w1]; omega)) only [e195_0, e195_1, e195_2, e195_5, e195_8, e195_9, e195_10, e195_13, e195_16, e195_17, e195_20, e195_21, e195_24, e195_27, e195_28, e195_29, e195_30, e195_32, e195_33, e195_36, e195_39, e195_40, e195_43, e195_44, e195_45, e195_46, e195_49, e195_50, e195_53, e195_54, e195_55, e195_58, e195_59, e195_60, e195_61, e195_64, e195_67, e195_68, e195_71, e195_72, e195_73, e195_74, e195_75, kl_I, kl_R, kl_N, kl_L, oSm, oNn, Option.bind_some, wN, if_pos, if_neg, nS, tN, t0, w0, w1, w2, w3, w4, w5, wm1, upA_ne, upA_same, if_true, if_false, Bool.false_eq_true, hn1, ra4, rl4, ci]
            refine ih _ ⟨hf, fun y hy => ?_⟩
            rw [hc y hy]
            by_cases e3 : y < i ∧ P y = q
            · rw [if_pos e3, if_pos ⟨by omega, e3.2⟩]
            · rw [if_neg e3, if_neg (fun z => e3 ⟨by
                rcases Nat.lt_or_ge y i with q1 | q1
                · exact q1
                · have : y = i := by omega
                  subst this
                  exact absurd z.2 e, z.2⟩)]) 0 (Nat.zero_le _)
        simp (disch := first | assumption | omega | (simp (disch := omega) only [wN, w0, w1]; omega)) only [e195_0, e195_1, e195_2, e195_5, e195_8, e195_9, e195_10, e195_13, e195_16, e195_17, e195_20, e195_21, e195_24, e195_27, e195_28, e195_29, e195_30, e195_32, e195_33, e195_36, e195_39, e195_40, e195_43, e195_44, e195_45, e195_46, e195_49, e195_50, e195_53, e195_54, e195_55, e195_58, e195_59, e195_60, e195_61, e195_64, e195_67, e195_68, e195_71, e195_72, e195_73, e195_74, e195_75, kl_I, kl_R, kl_N, kl_L, oSm, oNn, Option.bind_some, wN, if_pos, if_neg, nS, tN, t0, w0, w1, w2, w3, w4, w5, wm1, upA_ne, upA_same, if_true, if_false, Bool.false_eq_true, q195, l1, l2, hN, hMp]
        exact L σ ⟨frW.rf, fun y hy => by rw [if_neg (by omega)]; exact hP y hy⟩
    · rw [if_neg g2] at l2
      rw [if_pos (Or.inr (Or.inl g2))]
      simp (disch := first | assumption | omega | (simp (disch := omega) only [wN, w0, w1]; omega)) only [e195_0, e195_1, e195_2, e195_5, e195_8, e195_9, e195_10, e195_13, e195_16, e195_17, e195_20, e195_21, e195_24, e195_27, e195_28, e195_29, e195_30, e195_32, e195_33, e195_36, e195_39, e195_40, e195_43, e195_44, e195_45, e195_46, e195_49, e195_50, e195_53, e195_54, e195_55, e195_58, e195_59, e195_60, e195_61, e195_64, e195_67, e195_68, e195_71, e195_72, e195_73, e195_74, e195_75, kl_I, kl_R, kl_N, kl_L, oSm, oNn, Option.bind_some, wN, if_pos, if_neg, nS, tN, t0, w0, w1, w2, w3, w4, w5, wm1, upA_ne, upA_same, if_true, if_false, Bool.false_eq_true, q195, l1, l2]
      exact End.of rfl ⟨rfl, h⟩
  · rw [if_neg g1] at l1
    rw [if_pos (Or.inl g1)]
    simp (disch := first | assumption | omega | (simp (disch := omega) only [wN, w0, w1]; omega)) only [e195_0, e195_1, e195_2, e195_5, e195_8, e195_9, e195_10, e195_13, e195_16, e195_17, e195_20, e195_21, e195_24, e195_27, e195_28, e195_29, e195_30, e195_32, e195_33, e195_36, e195_39, e195_40, e195_43, e195_44, e195_45, e195_46, e195_49, e195_50, e195_53, e195_54, e195_55, e195_58, e195_59, e195_60, e195_61, e195_64, e195_67, e195_68, e195_71, e195_72, e195_73, e195_74, e195_75, kl_I, kl_R, kl_N, kl_L, oSm, oNn, Option.bind_some, wN, if_pos, if_neg, nS, tN, t0, w0, w1, w2, w3, w4, w5, wm1, upA_ne, upA_same, if_true, if_false, Bool.false_eq_true, q195, l1]
    exact End.of rfl ⟨rfl, h⟩
/-- the bytes of the tape -/
def HBy (σ : Mem) (B : Nat → Nat) : Prop := ∀ j, j < 140 → xand (σ.1 133 j) 255 = (B j : Int) ∧ B j < 256
theorem M175 {B : Nat → Nat} {s : Nat} (hM : MS sh) (hb : HBy σ B) (hs : σ.1 124 21 = (s : Int)) (h1 : s + 4 ≤ 140) : End (run sh d 175 [mR 124, mI z] σ) (fun r σ' => r = none ∧ HBy σ' (bzi B s z 4) ∧ σ'.1 124 21 = ((s + 4 : Nat) : Int) ∧ frW 133 133 21 21 σ σ') := by
  have mo := hM.1
  have m160 := hM.2.1
  obtain ⟨ra17, rk17, rl17⟩ := ms17 hM
  have L := for_P (4) (fun i => ∀ (σ1 : Mem), (HBy σ1 (bzi B s z i) ∧ σ1.1 124 21 = ((s + i : Nat) : Int) ∧ frW 133 133 21 21 σ σ1) → End (ev sh d 175 2 [some (mR (124)), some (mI (z)), some (mI (3 - (i : Int)))] [] σ1) (fun r σ' => r = none ∧ HBy σ' (bzi B s z 4) ∧ σ'.1 124 21 = ((s + 4 : Nat) : Int) ∧ frW 133 133 21 21 σ σ')) (by
    intro σ1  hp
    replace hp : HBy σ1 (bzi B s z (4)) ∧ σ1.1 124 21 = ((s + (4) : Nat) : Int) ∧ frW 133 133 21 21 σ σ1 := hp
    show End (ev sh d 175 2 [some (mR (124)), some (mI (z)), some (mI (3 - ((4) : Int)))] [] σ1) (fun r σ' => r = none ∧ HBy σ' (bzi B s z 4) ∧ σ'.1 124 21 = ((s + 4 : Nat) : Int) ∧ frW 133 133 21 21 σ σ')
    have wm : wi (3 - ((4 : Nat) : Int)) = -1 := rfl
    rw [e175_2]
    simp (disch := first | assumption | omega | (simp (disch := omega) only [wN, w0, w1]; omega)) only [e175_0, e175_1, e175_3, e175_6, e175_7, e175_10, e175_11, e175_14, e175_15, e175_17, e175_18, e175_19, e175_20, e175_21, e175_22, e175_23, e175_24, e175_27, e175_28, e175_29, e175_32, e175_35, e175_38, kl_I, kl_R, kl_N, kl_L, oSm, oNn, Option.bind_some, wN, if_pos, if_neg, nS, tN, t0, w0, w1, w2, w3, w4, w5, wm1, upA_ne, upA_same, if_true, if_false, Bool.false_eq_true, wm]
    exact End.of rfl ⟨rfl, hp⟩) (fun i hi ih => by
    replace ih : ∀ (σ1 : Mem), (HBy σ1 (bzi B s z (i + 1)) ∧ σ1.1 124 21 = ((s + (i + 1) : Nat) : Int) ∧ frW 133 133 21 21 σ σ1) → End (ev sh d 175 2 [some (mR (124)), some (mI (z)), some (mI (3 - ((i + 1) : Int)))] [] σ1) (fun r σ' => r = none ∧ HBy σ' (bzi B s z 4) ∧ σ'.1 124 21 = ((s + 4 : Nat) : Int) ∧ frW 133 133 21 21 σ σ') := ih
    intro σ1  hp
    replace hp : HBy σ1 (bzi B s z i) ∧ σ1.1 124 21 = ((s + i : Nat) : Int) ∧ frW 133 133 21 21 σ σ1 := hp
    show End (ev sh d 175 2 [some (mR (124)), some (mI (z)), some (mI (3 - (i : Int)))] [] σ1) (fun r σ' => r = none ∧ HBy σ' (bzi B s z 4) ∧ σ'.1 124 21 = ((s + 4 : Nat) : Int) ∧ frW 133 133 21 21 σ σ')
    obtain ⟨p1, p2, p3⟩ := hp
    have wm : wi (3 - (i : Int)) = 3 - (i : Int) := wi_id (by omega) (by omega)
    have bb := bzN_r z (3 - i)
    have e8 : (8 : Int) * (3 - (i : Int)) = ((8 * (3 - i) : Nat) : Int) := by omega
    have a1 : 3 - (i : Int) + -1 = 3 - ((i + 1 : Nat) : Int) := by omega
    rw [e175_2]
    simp (disch := first | assumption | omega | (simp (disch := omega) only [wN, w0, w1]; omega)) only [e175_0, e175_1, e175_3, e175_6, e175_7, e175_10, e175_11, e175_14, e175_15, e175_17, e175_18, e175_19, e175_20, e175_21, e175_22, e175_23, e175_24, e175_27, e175_28, e175_29, e175_32, e175_35, e175_38, kl_I, kl_R, kl_N, kl_L, oSm, oNn, Option.bind_some, wN, if_pos, if_neg, nS, tN, t0, w0, w1, w2, w3, w4, w5, wm1, upA_ne, upA_same, if_true, if_false, Bool.false_eq_true, p2, ra17, rl17, wm, e8, a1]
    have f1 : frW 133 133 21 21 σ1 (upA σ1.1 133 (up1 (σ1.1 133) (s + i) (xi2b (xi2b (xshr z ((8 * (3 - i) : Nat) : Int))))), σ1.2) := frW.a (by omega) (by omega)
    have f2 : frW 133 133 21 21 (upA σ1.1 133 (up1 (σ1.1 133) (s + i) (xi2b (xi2b (xshr z ((8 * (3 - i) : Nat) : Int))))), σ1.2) _ := frW.f (i := 21) (z := ((s + i + 1 : Nat) : Int)) (by omega)
    have f3 := f1.tr f2
    simp (disch := omega) only [upA_ne] at f3
    refine ih _ ⟨fun j hj => ?_, ?_, p3.tr f3⟩
    · have h0 := p1 j hj
      simp (disch := omega) only [upA_same, upA_ne]
      rw [bzi_s]
      by_cases e0 : j = s + i
      · subst e0
        rw [up1_same, if_pos rfl, xand_b, xand_b]
        exact ⟨bb.2, bb.1⟩
      · rw [up1_ne e0, if_neg e0]
        exact h0
    · simp (disch := omega) only [upA_same, up1_same]
      rfl) 0 (Nat.zero_le _)
  simp (disch := first | assumption | omega | (simp (disch := omega) only [wN, w0, w1]; omega)) only [e175_0, e175_1, e175_3, e175_6, e175_7, e175_10, e175_11, e175_14, e175_15, e175_17, e175_18, e175_19, e175_20, e175_21, e175_22, e175_23, e175_24, e175_27, e175_28, e175_29, e175_32, e175_35, e175_38, kl_I, kl_R, kl_N, kl_L, oSm, oNn, Option.bind_some, wN, if_pos, if_neg, nS, tN, t0, w0, w1, w2, w3, w4, w5, wm1, upA_ne, upA_same, if_true, if_false, Bool.false_eq_true, q175]
  exact L σ ⟨by rw [bzi_0]; exact hb, hs, frW.rf⟩
end ME

