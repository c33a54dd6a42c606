/-! ===== the law's loop (printed by genlx.py) ===== -/
theorem xand_63 (x : Int) : ∃ n : Nat, n < 64 ∧ xand x 63 = (n : Int) := by
  refine ⟨((Int32.ofInt x).toBitVec &&& 63#32).toNat, ?_, ?_⟩
  · rw [BitVec.toNat_and]
    exact Nat.lt_of_le_of_lt Nat.and_le_right (by decide)
  · unfold xand
    show ((Int32.ofInt x).toBitVec &&& 63#32).toInt = _
    rw [BitVec.toInt_eq_toNat_of_lt]
    rw [BitVec.toNat_and]
    have : (Int32.ofInt x).toBitVec.toNat &&& (63#32).toNat ≤ 63 := Nat.le_trans Nat.and_le_right (by decide)
    omega
theorem law_m {sh : Shp} {L : Nat} (hL : LZS sh L) : ∀ (k i : Nat) (σ : Mem) (a : AX), L ≤ i + k → i ≤ L + 6 → (∀ j, i32 (σ.1 161 j)) → InvX sh σ a → InvM sh σ a → ∃ σ', ev sh 15 288 18 [some (mR 161), some (mR 0), some (mR 124), some (mI (i : Int))] [] σ = some (some (mI 1), σ') := by
  obtain ⟨hX, hM, hcx, hcm, hN, k161, l161, L3⟩ := id hL
  intro k
  induction k using Nat.strongRecOn with
  | ind k ih =>
    intro i σ a hk hi6 hs h hm
    have q1 : (L : Int) - 6 < (i : Int) ∨ i + 6 ≤ L := by omega
    have w6' : wi ((L : Int) - 6) = (L : Int) - 6 := wi_id (by omega) (by omega)
    have wi' : wi (i : Int) = (i : Int) := wN (by omega)
    rcases q1 with q1 | q1
    · refine ⟨σ, ?_⟩
      rw [e288_18, e288_19, e288_20 (by rw [k161]; omega), e288_21, e288_23, l161, e288_24, if_pos (by rw [w6', wi']; exact q1), e288_1087, e288_1088 (Or.inr rfl)]
    · obtain ⟨t, t64, ht⟩ := xand_63 (σ.1 161 i)
      have hd : ev sh 15 288 18 [some (mR 161), some (mR 0), some (mR 124), some (mI (i : Int))] [] σ = ev sh 15 288 33 [some (mR 161), some (mR 0), some (mR 124), some (mI (i : Int))] [mI (t : Int)] σ := by
        rw [e288_18, e288_19, e288_20 (by rw [k161]; omega), e288_21, e288_23, l161, e288_24, if_neg (by rw [w6', wi']; omega), e288_27, e288_28, e288_29 k161, if_pos (by rw [wi', l161]; omega), wi', Int.toNat_natCast, e288_30, e288_32, ht]
      have fin : ∀ (σ' : Mem) (a' : AX), ev sh 15 288 33 [some (mR 161), some (mR 0), some (mR 124), some (mI (i : Int))] [mI (t : Int)] σ = ev sh 15 288 1081 [some (mR 161), some (mR 0), some (mR 124), some (mI (i : Int))] [] σ' → InvX sh σ' a' → InvM sh σ' a' → σ'.1 161 = σ.1 161 → ∃ σ', ev sh 15 288 18 [some (mR 161), some (mR 0), some (mR 124), some (mI (i : Int))] [] σ = some (some (mI 1), σ') := fun σ' a' e1 e2 e3 e4 => by
        obtain ⟨σ2, g⟩ := ih (k - 6) (by omega) (i + 6) σ' a' (by omega) (by omega) (fun j => by rw [e4]; exact hs j) e2 e3
        refine ⟨σ2, ?_⟩
        rw [hd, e1, e288_1081, e288_1084, ← g]
        rfl
      have wt : wi (t : Int) = (t : Int) := wN (by omega)
      rcases (show t = 0 ∨ t = 1 ∨ t = 2 ∨ t = 3 ∨ t = 4 ∨ t = 5 ∨ t = 6 ∨ t = 7 ∨ t = 8 ∨ t = 9 ∨ t = 10 ∨ t = 11 ∨ t = 12 ∨ t = 13 ∨ t = 14 ∨ t = 15 ∨ t = 16 ∨ t = 17 ∨ t = 18 ∨ t = 19 ∨ t = 20 ∨ t = 21 ∨ t = 22 ∨ t = 23 ∨ t = 24 ∨ t = 25 ∨ t = 26 ∨ t = 27 ∨ t = 28 ∨ t = 29 ∨ t = 30 ∨ t = 31 ∨ t = 32 ∨ 32 < t by omega) with e | e | e | e | e | e | e | e | e | e | e | e | e | e | e | e | e | e | e | e | e | e | e | e | e | e | e | e | e | e | e | e | e | e
      · obtain ⟨σ', a', e1, e2, e3, e4⟩ := lc_0 hL q1 hs h hm
        exact fin σ' a' (by rw [e288_33_0 (by rw [wt, e]; rfl)]; exact e1) e2 e3 e4
      · obtain ⟨σ', a', e1, e2, e3, e4⟩ := lc_1 hL q1 hs h hm
        exact fin σ' a' (by rw [e288_33_1 (by rw [wt, e]; rfl)]; exact e1) e2 e3 e4
      · obtain ⟨σ', a', e1, e2, e3, e4⟩ := lc_2 hL q1 hs h hm
        exact fin σ' a' (by rw [e288_33_2 (by rw [wt, e]; rfl)]; exact e1) e2 e3 e4
      · obtain ⟨σ', a', e1, e2, e3, e4⟩ := lc_3 hL q1 hs h hm
        exact fin σ' a' (by rw [e288_33_3 (by rw [wt, e]; rfl)]; exact e1) e2 e3 e4
      · obtain ⟨σ', a', e1, e2, e3, e4⟩ := lc_4 hL q1 hs h hm
        exact fin σ' a' (by rw [e288_33_4 (by rw [wt, e]; rfl)]; exact e1) e2 e3 e4
      · obtain ⟨σ', a', e1, e2, e3, e4⟩ := lc_5 hL q1 hs h hm
        exact fin σ' a' (by rw [e288_33_5 (by rw [wt, e]; rfl)]; exact e1) e2 e3 e4
      · obtain ⟨σ', a', e1, e2, e3, e4⟩ := lc_6 hL q1 hs h hm
        exact fin σ' a' (by rw [e288_33_6 (by rw [wt, e]; rfl)]; exact e1) e2 e3 e4
      · obtain ⟨σ', a', e1, e2, e3, e4⟩ := lc_7 hL q1 hs h hm
        exact fin σ' a' (by rw [e288_33_7 (by rw [wt, e]; rfl)]; exact e1) e2 e3 e4
      · obtain ⟨σ', a', e1, e2, e3, e4⟩ := lc_8 hL q1 hs h hm
        exact fin σ' a' (by rw [e288_33_8 (by rw [wt, e]; rfl)]; exact e1) e2 e3 e4
      · obtain ⟨σ', a', e1, e2, e3, e4⟩ := lc_9 hL q1 hs h hm
        exact fin σ' a' (by rw [e288_33_9 (by rw [wt, e]; rfl)]; exact e1) e2 e3 e4
      · obtain ⟨σ', a', e1, e2, e3, e4⟩ := lc_10 hL q1 hs h hm
        exact fin σ' a' (by rw [e288_33_10 (by rw [wt, e]; rfl)]; exact e1) e2 e3 e4
      · obtain ⟨σ', a', e1, e2, e3, e4⟩ := lc_11 hL q1 hs h hm
        exact fin σ' a' (by rw [e288_33_11 (by rw [wt, e]; rfl)]; exact e1) e2 e3 e4
      · obtain ⟨σ', a', e1, e2, e3, e4⟩ := lc_12 hL q1 hs h hm
        exact fin σ' a' (by rw [e288_33_12 (by rw [wt, e]; rfl)]; exact e1) e2 e3 e4
      · obtain ⟨σ', a', e1, e2, e3, e4⟩ := lc_13 hL q1 hs h hm
        exact fin σ' a' (by rw [e288_33_13 (by rw [wt, e]; rfl)]; exact e1) e2 e3 e4
      · obtain ⟨σ', a', e1, e2, e3, e4⟩ := lc_14 hL q1 hs h hm
        exact fin σ' a' (by rw [e288_33_14 (by rw [wt, e]; rfl)]; exact e1) e2 e3 e4
      · obtain ⟨σ', a', e1, e2, e3, e4⟩ := lc_15 hL q1 hs h hm
        exact fin σ' a' (by rw [e288_33_15 (by rw [wt, e]; rfl)]; exact e1) e2 e3 e4
      · obtain ⟨σ', a', e1, e2, e3, e4⟩ := lc_16 hL q1 hs h hm
        exact fin σ' a' (by rw [e288_33_16 (by rw [wt, e]; rfl)]; exact e1) e2 e3 e4
      · obtain ⟨σ', a', e1, e2, e3, e4⟩ := lc_17 hL q1 hs h hm
        exact fin σ' a' (by rw [e288_33_17 (by rw [wt, e]; rfl)]; exact e1) e2 e3 e4
      · obtain ⟨σ', a', e1, e2, e3, e4⟩ := lc_18 hL q1 hs h hm
        exact fin σ' a' (by rw [e288_33_18 (by rw [wt, e]; rfl)]; exact e1) e2 e3 e4
      · obtain ⟨σ', a', e1, e2, e3, e4⟩ := lc_19 hL q1 hs h hm
        exact fin σ' a' (by rw [e288_33_19 (by rw [wt, e]; rfl)]; exact e1) e2 e3 e4
      · obtain ⟨σ', a', e1, e2, e3, e4⟩ := lc_20 hL q1 hs h hm
        exact fin σ' a' (by rw [e288_33_20 (by rw [wt, e]; rfl)]; exact e1) e2 e3 e4
      · obtain ⟨σ', a', e1, e2, e3, e4⟩ := lc_21 hL q1 hs h hm
        exact fin σ' a' (by rw [e288_33_21 (by rw [wt, e]; rfl)]; exact e1) e2 e3 e4
      · obtain ⟨σ', a', e1, e2, e3, e4⟩ := lc_22 hL q1 hs h hm
        exact fin σ' a' (by rw [e288_33_22 (by rw [wt, e]; rfl)]; exact e1) e2 e3 e4
      · obtain ⟨σ', a', e1, e2, e3, e4⟩ := lc_23 hL q1 hs h hm
        exact fin σ' a' (by rw [e288_33_23 (by rw [wt, e]; rfl)]; exact e1) e2 e3 e4
      · obtain ⟨σ', a', e1, e2, e3, e4⟩ := lc_24 hL q1 hs h hm
        exact fin σ' a' (by rw [e288_33_24 (by rw [wt, e]; rfl)]; exact e1) e2 e3 e4
      · obtain ⟨σ', a', e1, e2, e3, e4⟩ := lc_25 hL q1 hs h hm
        exact fin σ' a' (by rw [e288_33_25 (by rw [wt, e]; rfl)]; exact e1) e2 e3 e4
      · obtain ⟨σ', a', e1, e2, e3, e4⟩ := lc_26 hL q1 hs h hm
        exact fin σ' a' (by rw [e288_33_26 (by rw [wt, e]; rfl)]; exact e1) e2 e3 e4
      · obtain ⟨σ', a', e1, e2, e3, e4⟩ := lc_27 hL q1 hs h hm
        exact fin σ' a' (by rw [e288_33_27 (by rw [wt, e]; rfl)]; exact e1) e2 e3 e4
      · obtain ⟨σ', a', e1, e2, e3, e4⟩ := lc_28 hL q1 hs h hm
        exact fin σ' a' (by rw [e288_33_28 (by rw [wt, e]; rfl)]; exact e1) e2 e3 e4
      · obtain ⟨σ', a', e1, e2, e3, e4⟩ := lc_29 hL q1 hs h hm
        exact fin σ' a' (by rw [e288_33_29 (by rw [wt, e]; rfl)]; exact e1) e2 e3 e4
      · obtain ⟨σ', a', e1, e2, e3, e4⟩ := lc_30 hL q1 hs h hm
        exact fin σ' a' (by rw [e288_33_30 (by rw [wt, e]; rfl)]; exact e1) e2 e3 e4
      · obtain ⟨σ', a', e1, e2, e3, e4⟩ := lc_31 hL q1 hs h hm
        exact fin σ' a' (by rw [e288_33_31 (by rw [wt, e]; rfl)]; exact e1) e2 e3 e4
      · obtain ⟨σ', a', e1, e2, e3, e4⟩ := lc_32 hL q1 hs h hm
        exact fin σ' a' (by rw [e288_33_32 (by rw [wt, e]; rfl)]; exact e1) e2 e3 e4
      · exact fin σ a (by rw [e288_33_d (Or.inr (by rw [wt]; omega))]) h hm rfl
