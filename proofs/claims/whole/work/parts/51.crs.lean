/-! ===== Course: what is done, what is open ===== -/
/-- all bits of A stand in D -/
def sbB (A D : Nat) : Bool := decide (A &&& D = A)
theorem xsb {A D : Nat} (hA : A < 2147483648) (hD : D < 2147483648) : (wi (xand (A : Int) (xxor (D : Int) (-1))) = 0) = (sbB A D = true) := by
  have e : xand (A : Int) (xxor (D : Int) (-1)) = (((nI A).toBitVec &&& ((nI D).toBitVec ^^^ BitVec.allOnes 32)).toInt) := by
    unfold xand xxor
    rw [oI_nat, oI_nat]
    rw [Int32.ofInt_toInt]
    rfl
  have hs : sbB A D = true ↔ (nI A).toBitVec &&& ((nI D).toBitVec ^^^ BitVec.allOnes 32) = 0#32 := by
    unfold sbB
    rw [decide_eq_true_eq]
    have ha : (nI A).toBitVec.toNat = A := by
      show (BitVec.ofNat 32 A).toNat = A
      rw [BitVec.toNat_ofNat, Nat.mod_eq_of_lt (by omega)]
    have hd : (nI D).toBitVec.toNat = D := by
      show (BitVec.ofNat 32 D).toNat = D
      rw [BitVec.toNat_ofNat, Nat.mod_eq_of_lt (by omega)]
    constructor
    · intro h
      apply BitVec.eq_of_getLsbD_eq
      intro i hi
      have hb : (A &&& D).testBit i = A.testBit i := by rw [h]
      rw [Nat.testBit_and] at hb
      rw [BitVec.getLsbD_and, BitVec.getLsbD_xor, BitVec.getLsbD_allOnes, BitVec.getLsbD_zero, ← BitVec.testBit_toNat, ← BitVec.testBit_toNat, ha, hd]
      simp only [hi, decide_true]
      revert hb
      cases A.testBit i <;> cases D.testBit i <;> simp
    · intro h
      apply Nat.eq_of_testBit_eq
      intro i
      rw [Nat.testBit_and]
      by_cases hi : i < 32
      · have hb := congrArg (fun v => BitVec.getLsbD v i) h
        rw [BitVec.getLsbD_and, BitVec.getLsbD_xor, BitVec.getLsbD_allOnes, BitVec.getLsbD_zero, ← BitVec.testBit_toNat, ← BitVec.testBit_toNat, ha, hd] at hb
        simp only [hi, decide_true] at hb
        revert hb
        cases A.testBit i <;> cases D.testBit i <;> simp
      · rw [Nat.testBit_lt_two_pow (x := A) (i := i) (Nat.lt_of_lt_of_le hA (by have : 2 ^ 31 ≤ 2 ^ i := Nat.pow_le_pow_right (by omega) (by omega); exact this))]; simp
  rw [e]
  have hw : wi (((nI A).toBitVec &&& ((nI D).toBitVec ^^^ BitVec.allOnes 32)).toInt) = ((nI A).toBitVec &&& ((nI D).toBitVec ^^^ BitVec.allOnes 32)).toInt := by
    show (BitVec.ofInt 32 _).toInt = _
    rw [BitVec.ofInt_toInt]
  rw [hw, eq_iff_iff, hs]
  constructor
  · intro h
    exact BitVec.toInt_inj.mp (by rw [h]; rfl)
  · intro h; rw [h]; rfl
/-- what a course holds: gates c on lines at P, edges E of m places, A what is ahead of each; D is done -/
def opB (A : Nat → Nat) (D g : Nat) : Bool := !D.testBit g && sbB (A g) D
/-- its lines lie side by side, or it is of one line -/
def fiB (F : Nat → Nat → Nat) (P : Nat → Nat) (q : Gt) : Bool := !decide (3 ≤ q.1) || decide (F (P q.2.1) (P q.2.2.toNat) = 1)
def dbB (F : Nat → Nat → Nat) (c : List Gt) (A : Nat → Nat) (P : Nat → Nat) (D g : Nat) : Bool := opB A D g && fiB F P (gA c g)
/-- all that can is done, of the gates below g -/
def daD (F : Nat → Nat → Nat) (c : List Gt) (A : Nat → Nat) (P : Nat → Nat) (D : Nat) : Nat → Nat
  | 0 => D
  | g + 1 => if dbB F c A P (daD F c A P D g) g = true then daD F c A P D g ||| 2 ^ g else daD F c A P D g
theorem daD_lt {F : Nat → Nat → Nat} {c : List Gt} {A P : Nat → Nat} {D n : Nat} (h : D < 2 ^ n) : ∀ g, g ≤ n → daD F c A P D g < 2 ^ n
  | 0, _ => h
  | g + 1, hg => by
    have := daD_lt (F := F) (c := c) (A := A) (P := P) h g (by omega)
    rw [daD]
    split
    · exact Nat.or_lt_two_pow this (Nat.pow_lt_pow_right (by omega) (by omega))
    · exact this
/-- a course at k: gates at k + 1, board at k + 8, layout at k + 17, what is ahead at k + 20 -/
def crS (sh : Shp) (k : Nat) : Prop := ob sh 2 5 k ∧ srf sh k 0 = k + 1 ∧ srf sh k 1 = k + 8 ∧ srf sh k 2 = k + 17 ∧ srf sh k 3 = k + 20 ∧ glS sh (k + 1) 30 ∧ bdS sh (k + 8) ∧ lyS sh (k + 17) ∧ skd sh (k + 20) = 0 ∧ sln sh (k + 20) = 30 ∧ k + 20 < sh.1
/-- what stays of a course -/
def HKs (σ : Mem) (k : Nat) (c : List Gt) (m : Nat) (E : List Ed) (A : Nat → Nat) : Prop := HG σ (k + 1) c ∧ HB σ (k + 8) m E ∧ HW σ (k + 8) m (farE E) ∧ ∀ g, g < c.length → σ.1 (k + 20) g = (A g : Int) ∧ A g < 2 ^ g
/-- what moves: where the lines are, what is done -/
def HKm (σ : Mem) (k n : Nat) (P : Nat → Nat) (D : Nat) : Prop := HL σ (k + 17) n P ∧ σ.1 k 4 = (D : Int)
/-- all there is to say of what a course is about -/
def okK (n m : Nat) (c : List Gt) (E : List Ed) : Prop := n ≤ 4 ∧ m ≤ 5 ∧ E.length ≤ 10 ∧ c.length ≤ 30 ∧ okC n c ∧ okE m E
theorem HKs.fr {x y k m : Nat} {σ σ' : Mem} {c : List Gt} {E : List Ed} {A : Nat → Nat} (h : HKs σ k c m E A) (hf : frI x y σ σ') (h1 : (k + 5 < x ∨ y < k + 1) ∧ (k + 16 < x ∨ y < k + 8) ∧ (k + 20 < x ∨ y < k + 20)) : HKs σ' k c m E A := by
  obtain ⟨a1, a2, a3, a4⟩ := h
  refine ⟨a1.frI hf (by omega), a2.fr hf (by omega), a3.fr hf (by omega), fun g hg => ?_⟩
  rw [hf.1 _ (by omega)]; exact a4 g hg
section CRS
variable {sh : Shp} {d k n m g D : Nat} {σ : Mem} {c : List Gt} {E : List Ed} {A P : Nat → Nat}
theorem U28 (hs : crS sh k) (hK : HKs σ k c m E A) (hM : HKm σ k n P D) (hk : okK n m c E) (hD : D < 2 ^ c.length) : run sh (d + 1) 28 [mR k] σ = some (some (mI (if D = 2 ^ c.length - 1 then 1 else 0)), σ) := by
  obtain ⟨ho, r0, r1, r2, r3, hg, hB, hL, k1, l1, hw⟩ := id hs
  have hgo := hg.1
  obtain ⟨-, -, -, h30, -, -⟩ := hk
  have hl := hK.1.1
  have hd := hM.2
  have p30 : 2 ^ c.length ≤ 2 ^ 30 := Nat.pow_le_pow_right (by omega) h30
  have p0 : 0 < 2 ^ c.length := Nat.two_pow_pos _
  have x1 := xshl_1 (k := c.length) (by omega)
  have e1 : ((2 ^ c.length : Nat) : Int) - 1 = ((2 ^ c.length - 1 : Nat) : Int) := by omega
  by_cases h : D = 2 ^ c.length - 1
  · have hI : (D : Int) = ((2 ^ c.length - 1 : Nat) : Int) := by rw [h]
    simp (disch := first | assumption | omega | (simp (disch := omega) only [wN, w0, w1]; omega)) only [e28_0, e28_1, e28_4, e28_5, e28_6, e28_9, e28_12, e28_13, e28_14, e28_15, e28_18, e28_19, e28_22, e28_23, kl_I, kl_R, kl_N, kl_L, oSm, oNn, Option.bind_some, wN, if_pos, if_neg, nS, tN, t0, w0, w1, w2, w3, w4, w5, wm1, upA_ne, upA_same, if_true, if_false, Bool.false_eq_true, q28, r0, hl, hd, x1, e1]
  · have hI : ¬ (D : Int) = ((2 ^ c.length - 1 : Nat) : Int) := fun z => h (by omega)
    simp (disch := first | assumption | omega | (simp (disch := omega) only [wN, w0, w1]; omega)) only [e28_0, e28_1, e28_4, e28_5, e28_6, e28_9, e28_12, e28_13, e28_14, e28_15, e28_18, e28_19, e28_22, e28_23, kl_I, kl_R, kl_N, kl_L, oSm, oNn, Option.bind_some, wN, if_pos, if_neg, nS, tN, t0, w0, w1, w2, w3, w4, w5, wm1, upA_ne, upA_same, if_true, if_false, Bool.false_eq_true, q28, r0, hl, hd, x1, e1]
theorem U29 (hs : crS sh k) (hK : HKs σ k c m E A) (hM : HKm σ k n P D) (hk : okK n m c E) (hD : D < 2 ^ c.length) (hg : g < c.length) : run sh (d + 1) 29 [mR k, mI (g : Int)] σ = some (some (mI (if opB A D g = true then 1 else 0)), σ) := by
  obtain ⟨ho, r0, r1, r2, r3, hgl, hB, hL, k1, l1, hw⟩ := id hs
  obtain ⟨-, -, -, h30, -, -⟩ := hk
  have hd := hM.2
  have p30 : 2 ^ c.length ≤ 2 ^ 30 := Nat.pow_le_pow_right (by omega) h30
  obtain ⟨a1, a2⟩ := hK.2.2.2 g hg
  have p29 : 2 ^ g ≤ 2 ^ 30 := Nat.pow_le_pow_right (by omega) (by omega)
  have xb := xbit (a := D) (k := g) (by omega) (by omega)
  have xs := xsb (A := A g) (D := D) (by omega) (by omega)
  have kr := K93n (sh := sh) (d := d) (σ := σ) (j := g) k1 l1 (by omega) (by omega)
  rw [a1] at kr
  unfold opB
  by_cases h1 : D.testBit g = true
  · simp (disch := first | assumption | omega | (simp (disch := omega) only [wN, w0, w1]; omega)) only [e29_0, e29_1, e29_4, e29_5, e29_6, e29_7, e29_8, e29_11, e29_12, e29_15, e29_16, e29_19, e29_20, e29_23, e29_24, e29_25, e29_26, e29_29, e29_30, e29_33, e29_34, kl_I, kl_R, kl_N, kl_L, oSm, oNn, Option.bind_some, wN, if_pos, if_neg, nS, tN, t0, w0, w1, w2, w3, w4, w5, wm1, upA_ne, upA_same, if_true, if_false, Bool.false_eq_true, q29, r3, hd, kr, xb, h1]
    simp [h1]
  · by_cases h2 : sbB (A g) D = true
    · rw [eq_true h2] at xs
      have xs := of_eq_true xs
      simp (disch := first | assumption | omega | (simp (disch := omega) only [wN, w0, w1]; omega)) only [e29_0, e29_1, e29_4, e29_5, e29_6, e29_7, e29_8, e29_11, e29_12, e29_15, e29_16, e29_19, e29_20, e29_23, e29_24, e29_25, e29_26, e29_29, e29_30, e29_33, e29_34, kl_I, kl_R, kl_N, kl_L, oSm, oNn, Option.bind_some, wN, if_pos, if_neg, nS, tN, t0, w0, w1, w2, w3, w4, w5, wm1, upA_ne, upA_same, if_true, if_false, Bool.false_eq_true, q29, r3, hd, kr, xb, h1]
      simp [h1, h2]
    · rw [eq_false h2] at xs
      have xs := of_eq_false xs
      simp (disch := first | assumption | omega | (simp (disch := omega) only [wN, w0, w1]; omega)) only [e29_0, e29_1, e29_4, e29_5, e29_6, e29_7, e29_8, e29_11, e29_12, e29_15, e29_16, e29_19, e29_20, e29_23, e29_24, e29_25, e29_26, e29_29, e29_30, e29_33, e29_34, kl_I, kl_R, kl_N, kl_L, oSm, oNn, Option.bind_some, wN, if_pos, if_neg, nS, tN, t0, w0, w1, w2, w3, w4, w5, wm1, upA_ne, upA_same, if_true, if_false, Bool.false_eq_true, q29, r3, hd, kr, xb, h1]
      simp [h1, h2]
theorem U30 (hs : crS sh k) (hK : HKs σ k c m E A) (hM : HKm σ k n P D) (hk : okK n m c E) (hP : okP n m P) (hg : g < c.length) (h3 : 3 ≤ (gA c g).1) : run sh (d + 2) 30 [mR k, mI (g : Int)] σ = some (some (mI (farE E (P (gA c g).2.1) (P (gA c g).2.2.toNat) : Int)), σ) := by
  obtain ⟨ho, r0, r1, r2, r3, hgl, hB, hL, k1, l1, hw⟩ := id hs
  obtain ⟨hn, hm, -, h30, hv, -⟩ := hk
  have hgo := hgl.1
  have hbo := hB.1
  have hlo := hL.1
  have v := hv.at hg
  have v5 := v.2.2.2.2 h3
  obtain ⟨t, ht⟩ : ∃ t : Nat, (gA c g).2.2 = (t : Int) := ⟨(gA c g).2.2.toNat, by omega⟩
  have e48 := L48 (d := d + 1) hgl hK.1 h30 (by omega) hg
  rw [ht] at e48 v5
  have t1 := hP.1 (gA c g).2.1 v.2.1
  have t2 := hP.1 t (by omega)
  simp (disch := first | assumption | omega | (simp (disch := omega) only [wN, w0, w1]; omega)) only [e30_0, e30_1, e30_4, e30_5, e30_8, e30_9, e30_12, e30_13, e30_16, e30_19, e30_20, e30_23, e30_24, e30_27, e30_28, e30_31, e30_34, e30_37, kl_I, kl_R, kl_N, kl_L, oSm, oNn, Option.bind_some, wN, if_pos, if_neg, nS, tN, t0, w0, w1, w2, w3, w4, w5, wm1, upA_ne, upA_same, if_true, if_false, Bool.false_eq_true, q30, r0, r1, r2, L47 hgl hK.1 h30 (by omega) hg, e48, ht, Y77 hL hM.1 hn v.2.1, Y77 hL hM.1 hn (show t < n by omega), N10w hB hK.2.1 hK.2.2.1 hm t1 t2]
theorem U31 (hs : crS sh k) (hK : HKs σ k c m E A) (hM : HKm σ k n P D) (hk : okK n m c E) (hP : okP n m P) (hD : D < 2 ^ c.length) (hg : g < c.length) : run sh (d + 3) 31 [mR k, mI (g : Int)] σ = some (if dbB (farE E) c A P D g = true then (some (mI 1), (upA σ.1 k (up1 (σ.1 k) 4 ((D ||| 2 ^ g : Nat) : Int)), σ.2)) else (some (mI 0), σ)) := by
  obtain ⟨ho, r0, r1, r2, r3, hgl, hB, hL, k1, l1, hw⟩ := id hs
  obtain ⟨hn, hm, -, h30, hv, -⟩ := id hk
  have hgo := hgl.1
  have hd := hM.2
  have p30 : 2 ^ c.length ≤ 2 ^ 30 := Nat.pow_le_pow_right (by omega) h30
  have p29 : 2 ^ g < 2 ^ 30 := Nat.pow_lt_pow_right (by omega) (by omega)
  have e29 := U29 (d := d + 1) hs hK hM hk hD hg
  have e50 := L50 (d := d + 2) hgl hK.1 h30 (by omega) hg hv
  have x1 := xshl_1 (k := g) (by omega)
  have x2 := xor_nn (a := D) (b := 2 ^ g) (by omega) (by omega)
  unfold dbB fiB
  by_cases h1 : opB A D g = true
  · by_cases h3 : 3 ≤ (gA c g).1
    · have e30 := U30 (d := d) hs hK hM hk hP hg h3
      have hf2 : farE E (P (gA c g).2.1) (P (gA c g).2.2.toNat) ≤ 99 := hK.2.2.1.le (by omega) (by have := hP.1 _ (hv.at hg).2.1; omega) (by have := hP.1 (gA c g).2.2.toNat (by have := (hv.at hg).2.2.2.2 h3; omega); omega)
      by_cases h2 : farE E (P (gA c g).2.1) (P (gA c g).2.2.toNat) = 1
      · simp (disch := first | assumption | omega | (simp (disch := omega) only [wN, w0, w1]; omega)) only [e31_0, e31_1, e31_2, e31_5, e31_8, e31_9, e31_12, e31_13, e31_16, e31_19, e31_20, e31_21, e31_24, e31_25, e31_28, e31_29, e31_30, e31_31I, e31_31R, e31_32, e31_35, e31_36, e31_37, e31_38, e31_39, e31_42, e31_43, kl_I, kl_R, kl_N, kl_L, oSm, oNn, Option.bind_some, wN, if_pos, if_neg, nS, tN, t0, w0, w1, w2, w3, w4, w5, wm1, upA_ne, upA_same, if_true, if_false, Bool.false_eq_true, q31, r0, e29, h1, e50, h3, e30, h2, hd, x1, x2]
        simp [h1, h2]
      · simp (disch := first | assumption | omega | (simp (disch := omega) only [wN, w0, w1]; omega)) only [e31_0, e31_1, e31_2, e31_5, e31_8, e31_9, e31_12, e31_13, e31_16, e31_19, e31_20, e31_21, e31_24, e31_25, e31_28, e31_29, e31_30, e31_31I, e31_31R, e31_32, e31_35, e31_36, e31_37, e31_38, e31_39, e31_42, e31_43, kl_I, kl_R, kl_N, kl_L, oSm, oNn, Option.bind_some, wN, if_pos, if_neg, nS, tN, t0, w0, w1, w2, w3, w4, w5, wm1, upA_ne, upA_same, if_true, if_false, Bool.false_eq_true, q31, r0, e29, h1, e50, h3, e30, hd, x1, x2]
        simp [h1, h2, h3]
    · simp (disch := first | assumption | omega | (simp (disch := omega) only [wN, w0, w1]; omega)) only [e31_0, e31_1, e31_2, e31_5, e31_8, e31_9, e31_12, e31_13, e31_16, e31_19, e31_20, e31_21, e31_24, e31_25, e31_28, e31_29, e31_30, e31_31I, e31_31R, e31_32, e31_35, e31_36, e31_37, e31_38, e31_39, e31_42, e31_43, kl_I, kl_R, kl_N, kl_L, oSm, oNn, Option.bind_some, wN, if_pos, if_neg, nS, tN, t0, w0, w1, w2, w3, w4, w5, wm1, upA_ne, upA_same, if_true, if_false, Bool.false_eq_true, q31, r0, e29, h1, e50, h3, hd, x1, x2]
      simp [h1, h3]
  · simp (disch := first | assumption | omega | (simp (disch := omega) only [wN, w0, w1]; omega)) only [e31_0, e31_1, e31_2, e31_5, e31_8, e31_9, e31_12, e31_13, e31_16, e31_19, e31_20, e31_21, e31_24, e31_25, e31_28, e31_29, e31_30, e31_31I, e31_31R, e31_32, e31_35, e31_36, e31_37, e31_38, e31_39, e31_42, e31_43, kl_I, kl_R, kl_N, kl_L, oSm, oNn, Option.bind_some, wN, if_pos, if_neg, nS, tN, t0, w0, w1, w2, w3, w4, w5, wm1, upA_ne, upA_same, if_true, if_false, Bool.false_eq_true, q31, r0, e29, h1]
    simp [h1]
theorem HKm.don {D' : Nat} (hM : HKm σ k n P D) : HKm (upA σ.1 k (up1 (σ.1 k) 4 (D' : Int)), σ.2) k n P D' := by
  refine ⟨hM.1.fr (frI.up (x := k) (y := k) (by omega)) (by omega), ?_⟩
  show upA _ _ _ _ _ = _
  rw [upA_same, up1_same]
theorem U32 (hs : crS sh k) (hK : HKs σ k c m E A) (hM : HKm σ k n P D) (hk : okK n m c E) (hP : okP n m P) (hD : D < 2 ^ c.length) : End (run sh (d + 4) 32 [mR k] σ) (fun r σ' => r = none ∧ HKs σ' k c m E A ∧ HKm σ' k n P (daD (farE E) c A P D c.length) ∧ frI k k σ σ') := by
  obtain ⟨ho, r0, r1, r2, r3, hgl, hB, hL, k1, l1, hw⟩ := id hs
  have hgo := hgl.1
  have L := for_P (c.length) (fun i => ∀ (σ1 : Mem), (HKs σ1 k c m E A ∧ HKm σ1 k n P (daD (farE E) c A P D i) ∧ frI k k σ σ1) → End (ev sh (d + 4) 32 2 [some (mR (k)), some (mI ((i : Nat) : Int))] [] σ1) (fun r σ' => r = none ∧ HKs σ' k c m E A ∧ HKm σ' k n P (daD (farE E) c A P D c.length) ∧ frI k k σ σ')) (by
    intro σ1  hp
    replace hp : HKs σ1 k c m E A ∧ HKm σ1 k n P (daD (farE E) c A P D (c.length)) ∧ frI k k σ σ1 := hp
    show End (ev sh (d + 4) 32 2 [some (mR (k)), some (mI (((c.length) : Nat) : Int))] [] σ1) (fun r σ' => r = none ∧ HKs σ' k c m E A ∧ HKm σ' k n P (daD (farE E) c A P D c.length) ∧ frI k k σ σ')
    have hl := hp.1.1.1
    rw [e32_2]
    simp (disch := first | assumption | omega | (simp (disch := omega) only [wN, w0, w1]; omega)) only [e32_0, e32_1, e32_3, e32_4, e32_7, e32_10, e32_13, e32_14, e32_15, e32_18, e32_19, e32_22, e32_25, kl_I, kl_R, kl_N, kl_L, oSm, oNn, Option.bind_some, wN, if_pos, if_neg, nS, tN, t0, w0, w1, w2, w3, w4, w5, wm1, upA_ne, upA_same, if_true, if_false, Bool.false_eq_true, r0, hl]
    exact End.of rfl ⟨rfl, hp⟩) (fun i hi ih => by
    replace ih : ∀ (σ1 : Mem), (HKs σ1 k c m E A ∧ HKm σ1 k n P (daD (farE E) c A P D (i + 1)) ∧ frI k k σ σ1) → End (ev sh (d + 4) 32 2 [some (mR (k)), some (mI (((i + 1) : Nat) : Int))] [] σ1) (fun r σ' => r = none ∧ HKs σ' k c m E A ∧ HKm σ' k n P (daD (farE E) c A P D c.length) ∧ frI k k σ σ') := ih
    intro σ1  hp
    replace hp : HKs σ1 k c m E A ∧ HKm σ1 k n P (daD (farE E) c A P D i) ∧ frI k k σ σ1 := hp
    show End (ev sh (d + 4) 32 2 [some (mR (k)), some (mI ((i : Nat) : Int))] [] σ1) (fun r σ' => r = none ∧ HKs σ' k c m E A ∧ HKm σ' k n P (daD (farE E) c A P D c.length) ∧ frI k k σ σ')
    have hl := hp.1.1.1
    have hlt := daD_lt (F := farE E) (c := c) (A := A) (P := P) hD i (by omega)
    have e31 := U31 (d := d) hs hp.1 hp.2.1 hk hP hlt hi
    obtain ⟨-, -, -, h30, -, -⟩ := id hk
    rw [e32_2]
    by_cases h : dbB (farE E) c A P (daD (farE E) c A P D i) i = true
    · rw [if_pos h] at e31
      simp (disch := first | assumption | omega | (simp (disch := omega) only [wN, w0, w1]; omega)) only [e32_0, e32_1, e32_3, e32_4, e32_7, e32_10, e32_13, e32_14, e32_15, e32_18, e32_19, e32_22, e32_25, kl_I, kl_R, kl_N, kl_L, oSm, oNn, Option.bind_some, wN, if_pos, if_neg, nS, tN, t0, w0, w1, w2, w3, w4, w5, wm1, upA_ne, upA_same, if_true, if_false, Bool.false_eq_true, r0, hl, e31]
      refine ih _ ⟨hp.1.fr (frI.up (x := k) (y := k) (by omega)) (by omega), ?_, hp.2.2.tr (frI.up (by omega))⟩
      rw [daD, if_pos h]
      exact hp.2.1.don
    · rw [if_neg h] at e31
      simp (disch := first | assumption | omega | (simp (disch := omega) only [wN, w0, w1]; omega)) only [e32_0, e32_1, e32_3, e32_4, e32_7, e32_10, e32_13, e32_14, e32_15, e32_18, e32_19, e32_22, e32_25, kl_I, kl_R, kl_N, kl_L, oSm, oNn, Option.bind_some, wN, if_pos, if_neg, nS, tN, t0, w0, w1, w2, w3, w4, w5, wm1, upA_ne, upA_same, if_true, if_false, Bool.false_eq_true, r0, hl, e31]
      refine ih _ ⟨hp.1, ?_, hp.2.2⟩
      rw [daD, if_neg h]
      exact hp.2.1) 0 (Nat.zero_le _)
  simp (disch := first | assumption | omega | (simp (disch := omega) only [wN, w0, w1]; omega)) only [e32_0, e32_1, e32_3, e32_4, e32_7, e32_10, e32_13, e32_14, e32_15, e32_18, e32_19, e32_22, e32_25, kl_I, kl_R, kl_N, kl_L, oSm, oNn, Option.bind_some, wN, if_pos, if_neg, nS, tN, t0, w0, w1, w2, w3, w4, w5, wm1, upA_ne, upA_same, if_true, if_false, Bool.false_eq_true, q32]
  exact L σ ⟨hK, hM, frI.rf⟩
theorem U33 (hs : crS sh k) (hK : HKs σ k c m E A) (hM : HKm σ k n P D) (hk : okK n m c E) (hD : D < 2 ^ c.length) : run sh (d + 2) 33 [mR k] σ = some (some (mI (bts (opB A D) c.length : Int)), σ) := by
  obtain ⟨ho, r0, r1, r2, r3, hgl, hB, hL, k1, l1, hw⟩ := id hs
  obtain ⟨-, -, -, h30, -, -⟩ := id hk
  have hgo := hgl.1
  have hl := hK.1.1
  have F := for_up (fun i => ev sh (d + 2) 33 4 [some (mR (k)), some (mI ((bts (opB A D) i : Nat) : Int)), some (mI ((i : Nat) : Int))] [] (σ)) (c.length) (fun i hi => by
    show ev sh (d + 2) 33 4 [some (mR (k)), some (mI ((bts (opB A D) i : Nat) : Int)), some (mI ((i : Nat) : Int))] [] (σ) = ev sh (d + 2) 33 4 [some (mR (k)), some (mI ((bts (opB A D) (i + 1) : Nat) : Int)), some (mI (((i + 1) : Nat) : Int))] [] (σ)
    have b1 := bts_lt (opB A D) i
    have b2 := p31 (k := i) (by omega)
    have b3 : 2 ^ i < 2147483648 := pw_lt (n := 31) (by omega) (by omega)
    rw [e33_4]
    by_cases h : opB A D i = true
    · simp (disch := first | assumption | omega | (simp (disch := omega) only [wN, w0, w1]; omega)) only [e33_0, e33_1, e33_2, e33_3, e33_5, e33_6, e33_9, e33_12, e33_15, e33_16, e33_17, e33_20, e33_23, e33_24, e33_25, e33_26, e33_27, e33_28, e33_29, e33_32, e33_35, e33_36, kl_I, kl_R, kl_N, kl_L, oSm, oNn, Option.bind_some, wN, if_pos, if_neg, nS, tN, t0, w0, w1, w2, w3, w4, w5, wm1, upA_ne, upA_same, if_true, if_false, Bool.false_eq_true, r0, hl, U29 hs hK hM hk hD hi, h, xshl_1, xor_nn, bts]
    · simp (disch := first | assumption | omega | (simp (disch := omega) only [wN, w0, w1]; omega)) only [e33_0, e33_1, e33_2, e33_3, e33_5, e33_6, e33_9, e33_12, e33_15, e33_16, e33_17, e33_20, e33_23, e33_24, e33_25, e33_26, e33_27, e33_28, e33_29, e33_32, e33_35, e33_36, kl_I, kl_R, kl_N, kl_L, oSm, oNn, Option.bind_some, wN, if_pos, if_neg, nS, tN, t0, w0, w1, w2, w3, w4, w5, wm1, upA_ne, upA_same, if_true, if_false, Bool.false_eq_true, r0, hl, U29 hs hK hM hk hD hi, h, bts]) 0 (Nat.zero_le _)
  simp (disch := first | assumption | omega | (simp (disch := omega) only [wN, w0, w1]; omega)) only [e33_0, e33_1, e33_2, e33_3, e33_5, e33_6, e33_9, e33_12, e33_15, e33_16, e33_17, e33_20, e33_23, e33_24, e33_25, e33_26, e33_27, e33_28, e33_29, e33_32, e33_35, e33_36, kl_I, kl_R, kl_N, kl_L, oSm, oNn, Option.bind_some, wN, if_pos, if_neg, nS, tN, t0, w0, w1, w2, w3, w4, w5, wm1, upA_ne, upA_same, if_true, if_false, Bool.false_eq_true, q33]
  refine F.trans ?_
  show ev sh (d + 2) 33 4 [some (mR (k)), some (mI ((bts (opB A D) c.length : Nat) : Int)), some (mI ((c.length : Nat) : Int))] [] σ = _
  rw [e33_4]
  simp (disch := first | assumption | omega | (simp (disch := omega) only [wN, w0, w1]; omega)) only [e33_0, e33_1, e33_2, e33_3, e33_5, e33_6, e33_9, e33_12, e33_15, e33_16, e33_17, e33_20, e33_23, e33_24, e33_25, e33_26, e33_27, e33_28, e33_29, e33_32, e33_35, e33_36, kl_I, kl_R, kl_N, kl_L, oSm, oNn, Option.bind_some, wN, if_pos, if_neg, nS, tN, t0, w0, w1, w2, w3, w4, w5, wm1, upA_ne, upA_same, if_true, if_false, Bool.false_eq_true, r0, hl]
/-- the distances of the gates of a set together -/
def faS (F : Nat → Nat → Nat) (c : List Gt) (P : Nat → Nat) (S : Nat) : Nat → Nat
  | 0 => 0
  | i + 1 => faS F c P S i + (if S.testBit i = true then F (P (gA c i).2.1) (P (gA c i).2.2.toNat) else 0)
/-- the greatest one -/
def fxS (F : Nat → Nat → Nat) (c : List Gt) (P : Nat → Nat) (S : Nat) : Nat → Nat := mxx (fun i => if S.testBit i = true then F (P (gA c i).2.1) (P (gA c i).2.2.toNat) else 0)
theorem U34 {S : Nat} (hs : crS sh k) (hK : HKs σ k c m E A) (hM : HKm σ k n P D) (hk : okK n m c E) (hP : okP n m P) (hS : S < 2 ^ c.length) (h2 : ∀ g, g < c.length → S.testBit g = true → 3 ≤ (gA c g).1) : run sh (d + 3) 34 [mR k, mI (S : Int)] σ = some (some (mI (faS (farE E) c P S c.length : Int)), σ) := by
  obtain ⟨ho, r0, r1, r2, r3, hgl, hB, hL, k1, l1, hw⟩ := id hs
  obtain ⟨-, -, -, h30, -, -⟩ := id hk
  have hgo := hgl.1
  have hl := hK.1.1
  have p30 : 2 ^ c.length ≤ 2 ^ 30 := Nat.pow_le_pow_right (by omega) h30
  have F := for_up (fun i => ev sh (d + 3) 34 4 [some (mR (k)), some (mI ((S : Nat) : Int)), some (mI ((faS (farE E) c P S i : Nat) : Int)), some (mI ((i : Nat) : Int))] [] (σ)) (c.length) (fun i hi => by
    show ev sh (d + 3) 34 4 [some (mR (k)), some (mI ((S : Nat) : Int)), some (mI ((faS (farE E) c P S i : Nat) : Int)), some (mI ((i : Nat) : Int))] [] (σ) = ev sh (d + 3) 34 4 [some (mR (k)), some (mI ((S : Nat) : Int)), some (mI ((faS (farE E) c P S (i + 1) : Nat) : Int)), some (mI (((i + 1) : Nat) : Int))] [] (σ)
    have xb := xbit (a := S) (k := i) (by omega) (by omega)
    rw [e34_4]
    by_cases h : S.testBit i = true
    · simp (disch := first | assumption | omega | (simp (disch := omega) only [wN, w0, w1]; omega)) only [e34_0, e34_1, e34_2, e34_3, e34_5, e34_6, e34_9, e34_12, e34_15, e34_16, e34_17, e34_18, e34_19, e34_20, e34_23, e34_24, e34_25, e34_26, e34_29, e34_30, e34_31, e34_34, e34_37, e34_38, kl_I, kl_R, kl_N, kl_L, oSm, oNn, Option.bind_some, wN, if_pos, if_neg, nS, tN, t0, w0, w1, w2, w3, w4, w5, wm1, upA_ne, upA_same, if_true, if_false, Bool.false_eq_true, r0, hl, xb, h, U30 hs hK hM hk hP hi (h2 i hi h), faS, Int.natCast_add]
    · simp (disch := first | assumption | omega | (simp (disch := omega) only [wN, w0, w1]; omega)) only [e34_0, e34_1, e34_2, e34_3, e34_5, e34_6, e34_9, e34_12, e34_15, e34_16, e34_17, e34_18, e34_19, e34_20, e34_23, e34_24, e34_25, e34_26, e34_29, e34_30, e34_31, e34_34, e34_37, e34_38, kl_I, kl_R, kl_N, kl_L, oSm, oNn, Option.bind_some, wN, if_pos, if_neg, nS, tN, t0, w0, w1, w2, w3, w4, w5, wm1, upA_ne, upA_same, if_true, if_false, Bool.false_eq_true, r0, hl, xb, h, faS, Nat.add_zero]) 0 (Nat.zero_le _)
  simp (disch := first | assumption | omega | (simp (disch := omega) only [wN, w0, w1]; omega)) only [e34_0, e34_1, e34_2, e34_3, e34_5, e34_6, e34_9, e34_12, e34_15, e34_16, e34_17, e34_18, e34_19, e34_20, e34_23, e34_24, e34_25, e34_26, e34_29, e34_30, e34_31, e34_34, e34_37, e34_38, kl_I, kl_R, kl_N, kl_L, oSm, oNn, Option.bind_some, wN, if_pos, if_neg, nS, tN, t0, w0, w1, w2, w3, w4, w5, wm1, upA_ne, upA_same, if_true, if_false, Bool.false_eq_true, q34]
  refine F.trans ?_
  show ev sh (d + 3) 34 4 [some (mR (k)), some (mI ((S : Nat) : Int)), some (mI ((faS (farE E) c P S c.length : Nat) : Int)), some (mI ((c.length : Nat) : Int))] [] σ = _
  rw [e34_4]
  simp (disch := first | assumption | omega | (simp (disch := omega) only [wN, w0, w1]; omega)) only [e34_0, e34_1, e34_2, e34_3, e34_5, e34_6, e34_9, e34_12, e34_15, e34_16, e34_17, e34_18, e34_19, e34_20, e34_23, e34_24, e34_25, e34_26, e34_29, e34_30, e34_31, e34_34, e34_37, e34_38, kl_I, kl_R, kl_N, kl_L, oSm, oNn, Option.bind_some, wN, if_pos, if_neg, nS, tN, t0, w0, w1, w2, w3, w4, w5, wm1, upA_ne, upA_same, if_true, if_false, Bool.false_eq_true, r0, hl]
theorem U35 {S : Nat} (hs : crS sh k) (hK : HKs σ k c m E A) (hM : HKm σ k n P D) (hk : okK n m c E) (hP : okP n m P) (hS : S < 2 ^ c.length) (h2 : ∀ g, g < c.length → S.testBit g = true → 3 ≤ (gA c g).1) : run sh (d + 3) 35 [mR k, mI (S : Int)] σ = some (some (mI (fxS (farE E) c P S c.length : Int)), σ) := by
  obtain ⟨ho, r0, r1, r2, r3, hgl, hB, hL, k1, l1, hw⟩ := id hs
  obtain ⟨-, hm, -, h30, hv, -⟩ := id hk
  have hgo := hgl.1
  have hl := hK.1.1
  have p30 : 2 ^ c.length ≤ 2 ^ 30 := Nat.pow_le_pow_right (by omega) h30
  have f9 : ∀ i, i < c.length → (if S.testBit i = true then farE E (P (gA c i).2.1) (P (gA c i).2.2.toNat) else 0) ≤ 99 := by
    intro i hi
    split
    · rename_i h
      have h3 := h2 i hi h
      exact hK.2.2.1.le hm (by have := hP.1 _ (hv.at hi).2.1; omega) (by have := hP.1 (gA c i).2.2.toNat (by have := (hv.at hi).2.2.2.2 h3; omega); omega)
    · omega
  have F := for_up (fun i => ev sh (d + 3) 35 4 [some (mR (k)), some (mI ((S : Nat) : Int)), some (mI ((fxS (farE E) c P S i : Nat) : Int)), some (mI ((i : Nat) : Int))] [] (σ)) (c.length) (fun i hi => by
    show ev sh (d + 3) 35 4 [some (mR (k)), some (mI ((S : Nat) : Int)), some (mI ((fxS (farE E) c P S i : Nat) : Int)), some (mI ((i : Nat) : Int))] [] (σ) = ev sh (d + 3) 35 4 [some (mR (k)), some (mI ((S : Nat) : Int)), some (mI ((fxS (farE E) c P S (i + 1) : Nat) : Int)), some (mI (((i + 1) : Nat) : Int))] [] (σ)
    have xb := xbit (a := S) (k := i) (by omega) (by omega)
    have b1 : fxS (farE E) c P S i ≤ 99 := mxx_le i (fun x hx => f9 x (by omega))
    have b2 := f9 i hi
    have e : fxS (farE E) c P S (i + 1) = max (fxS (farE E) c P S i) (if S.testBit i = true then farE E (P (gA c i).2.1) (P (gA c i).2.2.toNat) else 0) := rfl
    rw [e35_4]
    by_cases h : S.testBit i = true
    · rw [if_pos h] at b2 e
      simp (disch := first | assumption | omega | (simp (disch := omega) only [wN, w0, w1]; omega)) only [e35_0, e35_1, e35_2, e35_3, e35_5, e35_6, e35_9, e35_12, e35_15, e35_16, e35_17, e35_18, e35_19, e35_20, e35_23, e35_24, e35_25, e35_26, e35_29, e35_32, e35_33, e35_36, e35_39, e35_40, kl_I, kl_R, kl_N, kl_L, oSm, oNn, Option.bind_some, wN, if_pos, if_neg, nS, tN, t0, w0, w1, w2, w3, w4, w5, wm1, upA_ne, upA_same, if_true, if_false, Bool.false_eq_true, r0, hl, xb, h, U30 hs hK hM hk hP hi (h2 i hi h), e, mmx_nn]
    · rw [if_neg h, Nat.max_zero] at e
      simp (disch := first | assumption | omega | (simp (disch := omega) only [wN, w0, w1]; omega)) only [e35_0, e35_1, e35_2, e35_3, e35_5, e35_6, e35_9, e35_12, e35_15, e35_16, e35_17, e35_18, e35_19, e35_20, e35_23, e35_24, e35_25, e35_26, e35_29, e35_32, e35_33, e35_36, e35_39, e35_40, kl_I, kl_R, kl_N, kl_L, oSm, oNn, Option.bind_some, wN, if_pos, if_neg, nS, tN, t0, w0, w1, w2, w3, w4, w5, wm1, upA_ne, upA_same, if_true, if_false, Bool.false_eq_true, r0, hl, xb, h, e]) 0 (Nat.zero_le _)
  simp (disch := first | assumption | omega | (simp (disch := omega) only [wN, w0, w1]; omega)) only [e35_0, e35_1, e35_2, e35_3, e35_5, e35_6, e35_9, e35_12, e35_15, e35_16, e35_17, e35_18, e35_19, e35_20, e35_23, e35_24, e35_25, e35_26, e35_29, e35_32, e35_33, e35_36, e35_39, e35_40, kl_I, kl_R, kl_N, kl_L, oSm, oNn, Option.bind_some, wN, if_pos, if_neg, nS, tN, t0, w0, w1, w2, w3, w4, w5, wm1, upA_ne, upA_same, if_true, if_false, Bool.false_eq_true, q35]
  refine F.trans ?_
  show ev sh (d + 3) 35 4 [some (mR (k)), some (mI ((S : Nat) : Int)), some (mI ((fxS (farE E) c P S c.length : Nat) : Int)), some (mI ((c.length : Nat) : Int))] [] σ = _
  rw [e35_4]
  simp (disch := first | assumption | omega | (simp (disch := omega) only [wN, w0, w1]; omega)) only [e35_0, e35_1, e35_2, e35_3, e35_5, e35_6, e35_9, e35_12, e35_15, e35_16, e35_17, e35_18, e35_19, e35_20, e35_23, e35_24, e35_25, e35_26, e35_29, e35_32, e35_33, e35_36, e35_39, e35_40, kl_I, kl_R, kl_N, kl_L, oSm, oNn, Option.bind_some, wN, if_pos, if_neg, nS, tN, t0, w0, w1, w2, w3, w4, w5, wm1, upA_ne, upA_same, if_true, if_false, Bool.false_eq_true, r0, hl]
theorem U36 {e : Nat} (hs : crS sh k) (hK : HKs σ k c m E A) (hM : HKm σ k n P D) (hk : okK n m c E) (hP : okP n m P) (he : e < E.length) : End (run sh (d + 3) 36 [mR k, mI (e : Int)] σ) (fun r σ' => r = none ∧ HKs σ' k c m E A ∧ HKm σ' k n (swP (eA E e).1 (eA E e).2 P) D ∧ frI (k + 18) (k + 19) σ σ') := by
  obtain ⟨ho, r0, r1, r2, r3, hgl, hB, hL, k1, l1, hw⟩ := id hs
  obtain ⟨hn, hm, hE, h30, hv, hvE⟩ := id hk
  have hbo := hB.1
  have hlo := hL.1
  have h5 := hvE.at he
  obtain ⟨r, σ1, f1, rfl, f3, f4⟩ := Y79 (d := d) hL hM.1 hP hn hm (show (eA E e).1 < m by omega) (show (eA E e).2 < m by omega)
  simp (disch := first | assumption | omega | (simp (disch := omega) only [wN, w0, w1]; omega)) only [e36_0, e36_1, e36_4, e36_5, e36_8, e36_9, e36_12, e36_13, e36_16, e36_17, e36_20, e36_23, kl_I, kl_R, kl_N, kl_L, oSm, oNn, Option.bind_some, wN, if_pos, if_neg, nS, tN, t0, w0, w1, w2, w3, w4, w5, wm1, upA_ne, upA_same, if_true, if_false, Bool.false_eq_true, q36, r1, r2, N3 hB hK.2.1 hE he, N4 hB hK.2.1 hE he, f1]
  refine End.of rfl ⟨rfl, hK.fr f4 (by omega), ⟨f3, ?_⟩, f4.w (by omega) (by omega)⟩
  rw [f4.1 _ (by omega)]; exact hM.2
end CRS

