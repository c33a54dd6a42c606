/-! ===== the law: ahead, whole ===== -/
/-- all but two rows stays from 124 on -/
def frD (D L : Nat) (σ σ' : Mem) : Prop := ∀ x, 124 ≤ x → x ≠ D → x ≠ L → σ'.1 x = σ.1 x ∧ σ'.2 x = σ.2 x
theorem xsub {s w : Nat} (hs : s < 2147483648) (hw : w < 2147483648) (h : ∀ i, s.testBit i = true → w.testBit i = true) : xand (s : Int) (xxor (w : Int) (-1)) = 0 := by
  have e : s &&& w = s := by
    apply Nat.eq_of_testBit_eq
    intro i
    rw [Nat.testBit_and]
    cases hb : s.testBit i
    · rfl
    · rw [h i hb]; rfl
  have f : ∀ x y : Int32, (x &&& y) &&& (y ^^^ (-1)) = 0 := by
    intro x y
    apply Int32.toBitVec_inj.mp
    apply BitVec.eq_of_getLsbD_eq
    intro i hi
    have h1 : (Int32.toBitVec (-1)).getLsbD i = true := by
      have : Int32.toBitVec (-1) = BitVec.allOnes 32 := by decide
      rw [this, BitVec.getLsbD_allOnes]; exact decide_eq_true hi
    simp only [Int32.toBitVec_and, Int32.toBitVec_xor, BitVec.getLsbD_and, BitVec.getLsbD_xor, h1]
    cases x.toBitVec.getLsbD i <;> cases y.toBitVec.getLsbD i <;> simp
  have g : nI s &&& (nI w ^^^ (-1)) = 0 := by
    rw [← e, ← bI_and]; exact f _ _
  unfold xand xxor
  rw [oI_nat, oI_nat, Int32.ofInt_toInt]
  show (nI s &&& (nI w ^^^ (-1))).toInt = 0
  rw [g]; rfl
section PE7
variable {sh : Shp} {d kk n i j b D L p q : Nat} {σ σ' : Mem} {c : List Gt} {a : AX} {lo : Bool}
theorem cA2 (hI : LI (sh, σ, kk) a) (hc : a.1.2.1 = c) (hj : j < c.length) (c30 : c.length ≤ 30) : ∃ σ', run sh (d + 6) 126 [mR 0, mI (j : Int), mI 2] σ = some (some (mI ((bts (fun h => cmB (gA c j) (gA c h)) c.length : Nat) : Int)), σ') ∧ LI (sh, σ', kk) a ∧ fr9 σ σ' := by
  have e : aAhead a (j : Int) 2 = ((bts (fun h => cmB (gA c j) (gA c h)) c.length : Nat) : Int) := by
    unfold aAhead
    rw [hc, if_neg (by omega), if_pos rfl, Int.toNat_natCast]
  rw [← e]
  exact cX (as := [mR 0, mI (j : Int), mI 2]) hI (okA_of (zs := [(j : Int), 2])) (X126 (d := d + 1) hI.1 hI.2.1 (i32N (by omega)) (i32N (k := 2) (by omega)))
theorem cA0 (hI : LI (sh, σ, kk) a) (hc : a.1.2.1 = c) (hj : j < c.length) (c30 : c.length ≤ 30) : ∃ σ', run sh (d + 6) 126 [mR 0, mI (j : Int), mI 0] σ = some (some (mI ((ahS false c j : Nat) : Int)), σ') ∧ LI (sh, σ', kk) a ∧ fr9 σ σ' := by
  have e : aAhead a (j : Int) 0 = ((ahS false c j : Nat) : Int) := by
    unfold aAhead
    rw [hc, if_neg (by omega), if_neg (by decide), Int.toNat_natCast]; rfl
  rw [← e]
  exact cX (as := [mR 0, mI (j : Int), mI 0]) hI (okA_of (zs := [(j : Int), 0])) (X126 (d := d + 1) hI.1 hI.2.1 (i32N (by omega)) (i32N (k := 0) (by omega)))
theorem cA1 (hI : LI (sh, σ, kk) a) (hc : a.1.2.1 = c) (hj : j < c.length) (c30 : c.length ≤ 30) : ∃ σ', run sh (d + 6) 126 [mR 0, mI (j : Int), mI 1] σ = some (some (mI ((ahS true c j : Nat) : Int)), σ') ∧ LI (sh, σ', kk) a ∧ fr9 σ σ' := by
  have e : aAhead a (j : Int) 1 = ((ahS true c j : Nat) : Int) := by
    unfold aAhead
    rw [hc, if_neg (by omega), if_neg (by decide), Int.toNat_natCast]; rfl
  rw [← e]
  exact cX (as := [mR 0, mI (j : Int), mI 1]) hI (okA_of (zs := [(j : Int), 1])) (X126 (d := d + 1) hI.1 hI.2.1 (i32N (by omega)) (i32N (k := 1) (by omega)))
theorem cG {w : Int} {v : Int} (hI : LI (sh, σ, kk) a) (hw : i32 w) (hj : j < 30) (e : aGateIs a (j : Int) w = v) : ∃ σ', run sh (d + 6) 125 [mR 0, mI (j : Int), mI w] σ = some (some (mI v), σ') ∧ LI (sh, σ', kk) a ∧ fr9 σ σ' := by
  rw [← e]
  exact cX (as := [mR 0, mI (j : Int), mI w]) hI (okA_of (zs := [(j : Int), w])) (X125 hI.1 hI.2.1 (i32N (by omega)) hw)
theorem gi_4 (hc : a.1.2.1 = c) (hj : j < c.length) : aGateIs a (j : Int) 4 = ((bgS false (fun _ => 1) c j + 1 : Nat) : Int) := by
  unfold aGateIs
  rw [hc, if_neg (by omega), if_neg (by decide), Int.toNat_natCast]; rfl
theorem gi_5 (hc : a.1.2.1 = c) (hj : j < c.length) : aGateIs a (j : Int) 5 = ((bgS true (fun _ => 1) c j + 1 : Nat) : Int) := by
  unfold aGateIs
  rw [hc, if_neg (by omega), if_neg (by decide), Int.toNat_natCast]; rfl
theorem gi_k {k : Nat} (hc : a.1.2.1 = c) (hj : j < c.length) (hk : k < 4) : aGateIs a (j : Int) (k : Int) = paS (gA c j) k := by
  unfold aGateIs
  rw [hc, if_neg (by omega), if_pos (by omega), Int.toNat_natCast, Int.toNat_natCast]
end PE7

