/-! ===== Rows: fill ===== -/
/-- the numbers of the codes below k that stand -/
def rwT (m n : Nat) : Nat → List Nat
  | 0 => []
  | k + 1 => if nuF m k n n 0 < 0 then rwT m n k else rwT m n k ++ [(nuF m k n n 0).toNat]
/-- all layouts of n lines on m places, as numbers, in order -/
def rwL (n m : Nat) : List Nat := rwT m n (m ^ n)
theorem rwT_le {m n : Nat} {j k : Nat} (h : j ≤ k) : (rwT m n j).length ≤ (rwT m n k).length := by
  obtain ⟨i, rfl⟩ : ∃ i, k = j + i := ⟨k - j, by omega⟩
  induction i with
  | zero => exact Nat.le_refl _
  | succ i ih =>
    refine Nat.le_trans (ih (by omega)) ?_
    rw [← Nat.add_assoc, rwT]
    split
    · exact Nat.le_refl _
    · simp
theorem rwL_le : ∀ n, n < 5 → ∀ m, m < 6 → (rwL n m).length ≤ 120 := by decide +kernel
theorem nuF_lt {m k n : Nat} (h0 : 0 < m) (hm : m ≤ 5) : ∀ f i, nuF m k n f i = -1 ∨ nuF m k n f i = (loN m k n : Int)
  | 0, i => Or.inr rfl
  | f + 1, i => by
    rw [nuF]
    split
    · exact Or.inl rfl
    · exact nuF_lt h0 hm f (i + 1)
theorem loN_lt {m k : Nat} (h0 : 0 < m) (hm : m ≤ 5) : ∀ i, loN m k i < 10 ^ i
  | 0 => by simp [loN]
  | i + 1 => by
    have h1 := loN_lt (k := k) h0 hm i
    have h2 : dgt m k i < m := Nat.mod_lt _ h0
    rw [loN, Nat.pow_succ]
    have h3 : dgt m k i * 10 ^ i ≤ 9 * 10 ^ i := Nat.mul_le_mul_right _ (by omega)
    omega
theorem End.cg {e e' : Option (Option MV × Mem)} {P : Option MV → Mem → Prop} (h : e = e') (k : End e' P) : End e P := h ▸ k
section RWF
variable {sh : Shp} {d r n m : Nat} {σ : Mem}
theorem R98 (hs : rwS sh r 120) (h0 : 0 < m) (hm : m ≤ 5) (hn : n ≤ 4) : End (run sh (d + 2) 98 [mR r, mI (n : Int), mI (m : Int)] σ) (fun q σ' => q = none ∧ HR σ' r (rwL n m) ∧ frI r (r + 1) σ σ') := by
  obtain ⟨ho, k1, l1, hw, r0⟩ := id hs
  have hp5 : ∀ i, i ≤ n → m ^ i ≤ 625 := fun i hi => by
    have a1 : m ^ i ≤ 5 ^ i := Nat.pow_le_pow_left hm i
    have a2 : 5 ^ i ≤ 5 ^ 4 := Nat.pow_le_pow_right (by omega) (by omega)
    omega
  have hmn := hp5 n (Nat.le_refl _)
  have hLL := rwL_le n (by omega) m (by omega)
  have G := for_P (m ^ n) (fun i => ∀ (σ1 : Mem) (v5 : Option MV), (HR σ1 r (rwT m n i) ∧ frI r (r + 1) σ σ1) → End (ev sh (d + 2) 98 29 [some (mR (r)), some (mI ((n : Nat) : Int)), some (mI ((m : Nat) : Int)), some (mI ((m ^ n : Nat) : Int)), some (mI ((i : Nat) : Int)), v5] [] σ1) (fun q σ' => q = none ∧ HR σ' r (rwL n m) ∧ frI r (r + 1) σ σ')) (by
    intro σ1 v5 hp
    replace hp : HR σ1 r (rwT m n (m ^ n)) ∧ frI r (r + 1) σ σ1 := hp
    show End (ev sh (d + 2) 98 29 [some (mR (r)), some (mI ((n : Nat) : Int)), some (mI ((m : Nat) : Int)), some (mI ((m ^ n : Nat) : Int)), some (mI (((m ^ n) : Nat) : Int)), v5] [] σ1) (fun q σ' => q = none ∧ HR σ' r (rwL n m) ∧ frI r (r + 1) σ σ')
    rw [e98_29]
    simp (disch := first | assumption | omega | (simp (disch := omega) only [wN, w0, w1]; omega)) only [e98_0, e98_1, e98_2, e98_5, e98_6, e98_7, e98_8, e98_12, e98_13, e98_16, e98_17, e98_18, e98_19, e98_20, e98_23, e98_26, e98_27, e98_31, e98_32, e98_35, e98_37, e98_38, e98_39, e98_42, e98_44, e98_46, e98_49, e98_50, e98_53, e98_54, e98_57, e98_59, e98_62, e98_63I, e98_63R, e98_64, e98_67, e98_68, e98_69, e98_72, e98_75, e98_78, kl_I, kl_R, kl_N, kl_L, oSm, oNn, Option.bind_some, wN, if_pos, if_neg, nS, tN, t0, w0, w1, w2, w3, w4, w5, wm1, upA_ne, upA_same, if_true, if_false]
    exact End.of rfl ⟨rfl, hp.1, hp.2⟩) (fun i hi ih => by
    replace ih : ∀ (σ1 : Mem) (v5 : Option MV), (HR σ1 r (rwT m n (i + 1)) ∧ frI r (r + 1) σ σ1) → End (ev sh (d + 2) 98 29 [some (mR (r)), some (mI ((n : Nat) : Int)), some (mI ((m : Nat) : Int)), some (mI ((m ^ n : Nat) : Int)), some (mI (((i + 1) : Nat) : Int)), v5] [] σ1) (fun q σ' => q = none ∧ HR σ' r (rwL n m) ∧ frI r (r + 1) σ σ') := ih
    intro σ1 v5 hp
    replace hp : HR σ1 r (rwT m n i) ∧ frI r (r + 1) σ σ1 := hp
    show End (ev sh (d + 2) 98 29 [some (mR (r)), some (mI ((n : Nat) : Int)), some (mI ((m : Nat) : Int)), some (mI ((m ^ n : Nat) : Int)), some (mI ((i : Nat) : Int)), v5] [] σ1) (fun q σ' => q = none ∧ HR σ' r (rwL n m) ∧ frI r (r + 1) σ σ')
    have hl := hp.1.1
    have hle : (rwT m n (i + 1)).length ≤ 120 := Nat.le_trans (rwT_le (by omega)) hLL
    have e99 := R99 (sh := sh) (d := d) (σ := σ1) (k := i) h0 hm hn (by omega)
    rw [Nat.sub_zero] at e99
    have hlo := loN_lt (k := i) h0 hm n
    have h10 : 10 ^ n ≤ 10 ^ 4 := Nat.pow_le_pow_right (by omega) (by omega)
    have w120 : wi ((120 : Nat) : Int) = 120 := rfl
    rw [e98_29]
    by_cases h : nuF m i n n 0 < 0
    · have hv : nuF m i n n 0 = -1 := by
        rcases nuF_lt (k := i) (n := n) h0 hm n 0 with h1 | h1
        · exact h1
        · omega
      have e0 : rwT m n (i + 1) = rwT m n i := by rw [rwT, if_pos h]
      rw [e0] at ih
      rw [hv] at e99
      simp (disch := first | assumption | omega | (simp (disch := omega) only [wN, w0, w1]; omega)) only [e98_0, e98_1, e98_2, e98_5, e98_6, e98_7, e98_8, e98_12, e98_13, e98_16, e98_17, e98_18, e98_19, e98_20, e98_23, e98_26, e98_27, e98_31, e98_32, e98_35, e98_37, e98_38, e98_39, e98_42, e98_44, e98_46, e98_49, e98_50, e98_53, e98_54, e98_57, e98_59, e98_62, e98_63I, e98_63R, e98_64, e98_67, e98_68, e98_69, e98_72, e98_75, e98_78, kl_I, kl_R, kl_N, kl_L, oSm, oNn, Option.bind_some, wN, if_pos, if_neg, nS, tN, t0, w0, w1, w2, w3, w4, w5, wm1, upA_ne, upA_same, if_true, if_false, e99]
      exact ih _ _ hp
    · have hv : nuF m i n n 0 = (loN m i n : Int) := by
        rcases nuF_lt (k := i) (n := n) h0 hm n 0 with h1 | h1
        · omega
        · exact h1
      have e0 : rwT m n (i + 1) = rwT m n i ++ [loN m i n] := by rw [rwT, if_neg h, hv, tN]
      have e1 : (rwT m n (i + 1)).length = (rwT m n i).length + 1 := by rw [e0]; simp
      rw [hv] at e99
      simp (disch := first | assumption | omega | (simp (disch := omega) only [wN, w0, w1]; omega)) only [e98_0, e98_1, e98_2, e98_5, e98_6, e98_7, e98_8, e98_12, e98_13, e98_16, e98_17, e98_18, e98_19, e98_20, e98_23, e98_26, e98_27, e98_31, e98_32, e98_35, e98_37, e98_38, e98_39, e98_42, e98_44, e98_46, e98_49, e98_50, e98_53, e98_54, e98_57, e98_59, e98_62, e98_63I, e98_63R, e98_64, e98_67, e98_68, e98_69, e98_72, e98_75, e98_78, kl_I, kl_R, kl_N, kl_L, oSm, oNn, Option.bind_some, wN, if_pos, if_neg, nS, tN, t0, w0, w1, w2, w3, w4, w5, wm1, upA_ne, upA_same, if_true, if_false, e99, hl, r0, K289n k1 l1 (by omega) hw (show (rwT m n i).length < 120 by omega)]
      refine ih _ _ ⟨⟨?_, fun j hj => ?_⟩, fun a ha => ?_, hp.2.2⟩
      · simp (disch := omega) only [upA_same, upA_ne, up1_same, e1, hl]
      · rw [e0]
        by_cases e : j = (rwT m n i).length
        · subst e
          simp (disch := omega) only [upA_same, upA_ne, up1_same]
          simp
        · have hj2 : j < (rwT m n i).length := by omega
          simp (disch := omega) only [upA_same, upA_ne, up1_ne]
          rw [hp.1.2 j hj2]
          simp [List.getElem?_append_left hj2]
      · simp (disch := omega) only [upA_ne]
        exact hp.2.1 a ha) 0 (Nat.zero_le _)
  have f0 : frI r (r + 1) σ (upA σ.1 r (up1 (σ.1 r) 1 0), σ.2) := frI.up (by omega)
  have L := for_up (fun i => ev sh (d + 2) 98 10 [some (mR (r)), some (mI ((n : Nat) : Int)), some (mI ((m : Nat) : Int)), some (mI ((m ^ i : Nat) : Int)), some (mI ((i : Nat) : Int)), none] [] ((upA σ.1 r (up1 (σ.1 r) 1 0), σ.2))) (n) (fun i hi => by
    show ev sh (d + 2) 98 10 [some (mR (r)), some (mI ((n : Nat) : Int)), some (mI ((m : Nat) : Int)), some (mI ((m ^ i : Nat) : Int)), some (mI ((i : Nat) : Int)), none] [] ((upA σ.1 r (up1 (σ.1 r) 1 0), σ.2)) = ev sh (d + 2) 98 10 [some (mR (r)), some (mI ((n : Nat) : Int)), some (mI ((m : Nat) : Int)), some (mI ((m ^ (i + 1) : Nat) : Int)), some (mI (((i + 1) : Nat) : Int)), none] [] ((upA σ.1 r (up1 (σ.1 r) 1 0), σ.2))
    have e : ((m ^ i : Nat) : Int) * (m : Int) = ((m ^ (i + 1) : Nat) : Int) := by rw [Nat.pow_succ, Int.natCast_mul]
    rw [e98_10]
    simp (disch := first | assumption | omega | (simp (disch := omega) only [wN, w0, w1]; omega)) only [e98_0, e98_1, e98_2, e98_5, e98_6, e98_7, e98_8, e98_12, e98_13, e98_16, e98_17, e98_18, e98_19, e98_20, e98_23, e98_26, e98_27, e98_31, e98_32, e98_35, e98_37, e98_38, e98_39, e98_42, e98_44, e98_46, e98_49, e98_50, e98_53, e98_54, e98_57, e98_59, e98_62, e98_63I, e98_63R, e98_64, e98_67, e98_68, e98_69, e98_72, e98_75, e98_78, kl_I, kl_R, kl_N, kl_L, oSm, oNn, Option.bind_some, wN, if_pos, if_neg, nS, tN, t0, w0, w1, w2, w3, w4, w5, wm1, upA_ne, upA_same, if_true, if_false, e]) 0 (Nat.zero_le _)
  simp (disch := first | assumption | omega | (simp (disch := omega) only [wN, w0, w1]; omega)) only [e98_0, e98_1, e98_2, e98_5, e98_6, e98_7, e98_8, e98_12, e98_13, e98_16, e98_17, e98_18, e98_19, e98_20, e98_23, e98_26, e98_27, e98_31, e98_32, e98_35, e98_37, e98_38, e98_39, e98_42, e98_44, e98_46, e98_49, e98_50, e98_53, e98_54, e98_57, e98_59, e98_62, e98_63I, e98_63R, e98_64, e98_67, e98_68, e98_69, e98_72, e98_75, e98_78, kl_I, kl_R, kl_N, kl_L, oSm, oNn, Option.bind_some, wN, if_pos, if_neg, nS, tN, t0, w0, w1, w2, w3, w4, w5, wm1, upA_ne, upA_same, if_true, if_false, q98]
  have L0 := L
  rw [show m ^ 0 = 1 from rfl] at L0
  refine End.cg L0 ?_
  show End (ev sh (d + 2) 98 10 [some (mR (r)), some (mI ((n : Nat) : Int)), some (mI ((m : Nat) : Int)), some (mI ((m ^ n : Nat) : Int)), some (mI ((n : Nat) : Int)), none] [] (upA σ.1 r (up1 (σ.1 r) 1 0), σ.2)) _
  rw [e98_10]
  simp (disch := first | assumption | omega | (simp (disch := omega) only [wN, w0, w1]; omega)) only [e98_0, e98_1, e98_2, e98_5, e98_6, e98_7, e98_8, e98_12, e98_13, e98_16, e98_17, e98_18, e98_19, e98_20, e98_23, e98_26, e98_27, e98_31, e98_32, e98_35, e98_37, e98_38, e98_39, e98_42, e98_44, e98_46, e98_49, e98_50, e98_53, e98_54, e98_57, e98_59, e98_62, e98_63I, e98_63R, e98_64, e98_67, e98_68, e98_69, e98_72, e98_75, e98_78, kl_I, kl_R, kl_N, kl_L, oSm, oNn, Option.bind_some, wN, if_pos, if_neg, nS, tN, t0, w0, w1, w2, w3, w4, w5, wm1, upA_ne, upA_same, if_true, if_false]
  refine G _ none ⟨⟨?_, fun j hj => ?_⟩, f0⟩
  · show upA _ _ _ _ _ = _
    rw [upA_same, up1_same]; rfl
  · exact absurd hj (Nat.not_lt_zero _)
end RWF
