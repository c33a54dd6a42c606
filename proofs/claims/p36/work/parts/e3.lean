/-! ===== the law: chances ===== -/
theorem td2 (x : Int) : (x - x.tdiv 2 * 2 = 0 ↔ x % 2 = 0) ∧ -1 ≤ x - x.tdiv 2 * 2 ∧ x - x.tdiv 2 * 2 ≤ 1 := by
  rcases Int.le_total 0 x with h | h
  · rw [Int.tdiv_eq_ediv_of_nonneg h]; omega
  · obtain ⟨y, rfl⟩ : ∃ y, x = -y := ⟨-x, by omega⟩
    rw [Int.neg_tdiv, Int.tdiv_eq_ediv_of_nonneg (by omega)]; omega
theorem lrem_2 {x : Int} (hx : -4611686018427387904 ≤ x ∧ x ≤ 4611686018427387904) : wi (lcmp' (lrem' x 2) 0) = 0 ↔ x % 2 = 0 := by
  obtain ⟨t1, t2, t3⟩ := td2 x
  have e : lrem' x 2 = x - x.tdiv 2 * 2 := by
    have hq : Int64.ofInt x / Int64.ofInt 2 = Int64.ofInt (x.tdiv 2) := by
      apply Int64.toInt_inj.mp
      rw [Int64.toInt_div, Int64.toInt_ofInt_of_le (by omega) (by omega), show (Int64.ofInt 2).toInt = 2 by rfl, Int64.toInt_ofInt_of_le (by omega) (by omega)]
      exact Int.bmod_eq_of_le (by omega) (by omega)
    unfold lrem'
    rw [hq, ← Int64.ofInt_mul, ← Int64.ofInt_sub, Int64.toInt_ofInt_of_le (by omega) (by omega)]
  rw [e, lcmp_w (by omega) (by omega)]
  exact t1
theorem lshl_1 : ∀ e : Nat, e < 31 → lshl' 1 (e : Int) = ((2 ^ e : Nat) : Int) := by decide +kernel
theorem lcmp_s (x : Int) : lcmp' x x = 0 := lcmp_0 rfl
theorem lcmp_ge {x : Int} (h : 0 ≤ x ∧ x ≤ 4611686018427387904) : ¬ wi (lcmp' x 0) < 0 := by
  have e1 : wl x = x := wl_id (by omega) (by omega)
  have e2 : wl 0 = 0 := rfl
  unfold lcmp'
  rw [e1, e2, if_neg (by omega)]
  split <;> decide
/-- sums over the states below k -/
def smS (f : Nat → Int) : Nat → Int
  | 0 => 0
  | k + 1 => smS f k + f k
theorem smS_16 (f : Nat → Int) : smS f 16 = s16 f := by simp only [smS, s16]; omega
theorem smS_z {f : Nat → Int} {k : Nat} (h : ∀ j, k ≤ j → f j = 0) : ∀ i, smS f (k + i) = smS f k
  | 0 => rfl
  | i + 1 => by
    show smS f (k + i) + f (k + i) = _
    rw [smS_z h i, h _ (by omega)]; omega
theorem smS_n {n : Nat} (hn : n ≤ 4) {f : Nat → Int} (h : ∀ j, 2 ^ n ≤ j → f j = 0) : smS f (2 ^ n) = s16 f := by
  have p16 : 2 ^ n ≤ 2 ^ 4 := Nat.pow_le_pow_right (by omega) hn
  rw [← smS_16, show 16 = 2 ^ n + (16 - 2 ^ n) by omega, smS_z h]
def evN (q : Q4) : Bool := decide ((q.1 + q.2.2.1) % 2 = 0) && decide ((q.2.1 + q.2.2.2) % 2 = 0)
theorem evN_Q (q : Q4) : evN q = evQ q := by
  unfold evN evQ
  rw [show decide ((q.1 + q.2.2.1) % 2 = 0) = decide ((q.1 - q.2.2.1) % 2 = 0) from decide_eq_decide.mpr (by omega), show decide ((q.2.1 + q.2.2.2) % 2 = 0) = decide ((q.2.1 - q.2.2.2) % 2 = 0) from decide_eq_decide.mpr (by omega)]
theorem fr9.tr {σ σ1 σ2 : Mem} (h : fr9 σ σ1) (h2 : fr9 σ1 σ2) : fr9 σ σ2 := fun b hb => ⟨(h2 b hb).1.trans (h b hb).1, (h2 b hb).2.trans (h b hb).2⟩
theorem fr9.rf {σ : Mem} : fr9 σ σ := fun _ _ => ⟨rfl, rfl⟩
section PE3
variable {sh : Shp} {d kk n f t k : Nat} {σ : Mem} {a : AX}
theorem LI.ok {S : PS} (h : LI S a) : okC a.1.1 a.1.2.1 ∧ a.1.1 ≤ 4 ∧ 1 ≤ a.1.1 ∧ a.1.2.1.length ≤ 30 := by
  obtain ⟨⟨-, ho⟩, -⟩ := h.2.1
  exact ⟨ho.2.2.2.1, ho.2.1, ho.1, ho.2.2.1⟩
/-- the class's calls, out of the law -/
theorem cAmp {z w v : Int} (hI : LI (sh, σ, kk) a) (hz : i32 z) (hw : i32 w) (hv : i32 v) : ∃ σ', run sh (d + 4) 132 [mR 0, mI z, mI w, mI v] σ = some (some (mL (aAmp a z w v)), σ') ∧ LI (sh, σ', kk) a ∧ fr9 σ σ' :=
  cX (as := [mR 0, mI z, mI w, mI v]) hI (okA_of (zs := [z, w, v])) (X132 hI.1 hI.2.1 hz hw hv)
theorem cCha {z w v : Int} (hI : LI (sh, σ, kk) a) (hz : i32 z) (hw : i32 w) (hv : i32 v) : ∃ σ', run sh (d + 4) 133 [mR 0, mI z, mI w, mI v] σ = some (some (mL (aCha a z w v)), σ') ∧ LI (sh, σ', kk) a ∧ fr9 σ σ' :=
  cX (as := [mR 0, mI z, mI w, mI v]) hI (okA_of (zs := [z, w, v])) (X133 hI.1 hI.2.1 hz hw hv)
theorem cSpr {z : Int} (hI : LI (sh, σ, kk) a) (hz : i32 z) : ∃ σ', run sh (d + 4) 134 [mR 0, mI z] σ = some (some (mI (aSpr a z)), σ') ∧ LI (sh, σ', kk) a ∧ fr9 σ σ' :=
  cX (as := [mR 0, mI z]) hI (okA_of (zs := [z])) (X134 hI.1 hI.2.1 hz)
theorem cIs {z : Int} (hI : LI (sh, σ, kk) a) (hz : i32 z) : ∃ σ', run sh (d + 6) 127 [mR 0, mI z] σ = some (some (mI (aCircIs a z)), σ') ∧ LI (sh, σ', kk) a ∧ fr9 σ σ' :=
  cX (as := [mR 0, mI z]) hI (okA_of (zs := [z])) (X127 hI.1 hI.2.1 hz)
theorem aAmp_e (hf : f < 2 ^ a.1.1) (ht : t < 2 ^ a.1.1) : aAmp a (f : Int) (t : Int) 4 = ((amV a.1.2.1 f).2 : Int) := by
  unfold aAmp
  rw [if_neg (by omega), if_pos rfl, Int.toNat_natCast]
theorem aAmp_v (hf : f < 2 ^ a.1.1) (ht : t < 2 ^ a.1.1) (hk : k < 4) : aAmp a (f : Int) (t : Int) (k : Int) = prt ((amV a.1.2.1 f).1 t) k := by
  unfold aAmp
  rw [if_neg (by omega), if_neg (by omega), Int.toNat_natCast, Int.toNat_natCast, Int.toNat_natCast]
theorem aCha_e (hf : f < 2 ^ a.1.1) (ht : t < 2 ^ a.1.1) : aCha a (f : Int) (t : Int) 2 = ((amV a.1.2.1 f).2 : Int) := by
  unfold aCha
  rw [if_neg (by omega), if_pos rfl, Int.toNat_natCast]
theorem aCha_v {v : Int} (hf : f < 2 ^ a.1.1) (ht : t < 2 ^ a.1.1) (hv : v = 0 ∨ v = 1) : aCha a (f : Int) (t : Int) v = chQ ((amV a.1.2.1 f).1 t) v := by
  unfold aCha
  rw [if_neg (by omega), if_neg (by omega), Int.toNat_natCast, Int.toNat_natCast]
theorem aSpr_v (hf : f < 2 ^ a.1.1) : aSpr a (f : Int) = (cnt (fun s => decide ((amV a.1.2.1 f).1 s ≠ qz)) (2 ^ a.1.1) : Int) := by
  unfold aSpr
  rw [if_neg (by omega), Int.toNat_natCast]
end PE3

