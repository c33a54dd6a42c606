/-! ===== same ===== -/
/-- the places of lines out of a number with a digit for each -/
def pOf (n N x : Nat) : Nat := N / 10 ^ (n - 1 - x) % 10
def rwOk (n m N : Nat) : Bool := decide (dgC (pOf n N) n = N) && (List.range n).all (fun x => decide (pOf n N x < m) && (List.range n).all (fun y => x == y || !(pOf n N x == pOf n N y)))
theorem rw_all : ∀ n, n < 5 → ∀ m, m < 6 → (rwL n m).all (rwOk n m) = true := by decide +kernel
theorem rwL_ok {n m i : Nat} (hn : n ≤ 4) (hm : m ≤ 5) (hi : i < (rwL n m).length) : dgC (pOf n ((rwL n m).getD i 0)) n = (rwL n m).getD i 0 ∧ okP n m (pOf n ((rwL n m).getD i 0)) := by
  have h := List.all_eq_true.mp (rw_all n (by omega) m (by omega)) ((rwL n m).getD i 0) (by
    rw [List.getD_eq_getElem?_getD, List.getElem?_eq_getElem hi]
    exact List.getElem_mem hi)
  unfold rwOk at h
  rw [Bool.and_eq_true, decide_eq_true_eq] at h
  refine ⟨h.1, fun x hx => ?_, fun x y hx hy e => ?_⟩
  · have h2 := List.all_eq_true.mp h.2 x (List.mem_range.mpr hx)
    rw [Bool.and_eq_true, decide_eq_true_eq] at h2
    exact h2.1
  · have h2 := List.all_eq_true.mp h.2 x (List.mem_range.mpr hx)
    rw [Bool.and_eq_true] at h2
    have h3 := List.all_eq_true.mp h2.2 y (List.mem_range.mpr hy)
    rw [Bool.or_eq_true] at h3
    rcases h3 with h3 | h3
    · simpa using h3
    · rw [e] at h3
      simp at h3
theorem clr_nn {T t : Nat} (hT : T < 2147483648) (ht : t < 31) : xand (T : Int) (xxor ((2 ^ t : Nat) : Int) (-1)) = ((T &&& (T ^^^ 2 ^ t) : Nat) : Int) := by
  have h2 : 2 ^ t < 2147483648 := pw_lt (n := 31) ht (by omega)
  have e : xand (T : Int) (xxor ((2 ^ t : Nat) : Int) (-1)) = (((nI T).toBitVec &&& ((nI (2 ^ t)).toBitVec ^^^ BitVec.allOnes 32)).toInt) := by
    unfold xand xxor
    rw [oI_nat, oI_nat]
    rw [Int32.ofInt_toInt]
    rfl
  have ha : (nI T).toBitVec.toNat = T := by
    show (BitVec.ofNat 32 T).toNat = T
    rw [BitVec.toNat_ofNat, Nat.mod_eq_of_lt (by omega)]
  have hd : (nI (2 ^ t)).toBitVec.toNat = 2 ^ t := by
    show (BitVec.ofNat 32 (2 ^ t)).toNat = 2 ^ t
    rw [BitVec.toNat_ofNat, Nat.mod_eq_of_lt (by omega)]
  have hn : ((nI T).toBitVec &&& ((nI (2 ^ t)).toBitVec ^^^ BitVec.allOnes 32)).toNat = T &&& (T ^^^ 2 ^ t) := by
    apply Nat.eq_of_testBit_eq
    intro i
    rw [BitVec.testBit_toNat, BitVec.getLsbD_and, BitVec.getLsbD_xor, BitVec.getLsbD_allOnes, ← BitVec.testBit_toNat, ← BitVec.testBit_toNat, ha, hd, Nat.testBit_and, Nat.testBit_xor, Nat.testBit_two_pow]
    by_cases hi : i < 32
    · simp only [hi, decide_true]
      cases T.testBit i <;> cases decide (t = i) <;> rfl
    · have : T.testBit i = false := Nat.testBit_lt_two_pow (Nat.lt_of_lt_of_le hT (by have : 2 ^ 31 ≤ 2 ^ i := Nat.pow_le_pow_right (by omega) (by omega); exact this))
      rw [this]; rfl
  have hlt : T &&& (T ^^^ 2 ^ t) < 2147483648 := Nat.lt_of_le_of_lt Nat.and_le_left hT
  rw [e, BitVec.toInt_eq_toNat_of_lt (by rw [hn]; omega), hn]
theorem bts_clr {p q : Nat → Bool} {N t : Nat} (h : ∀ i, i < N → q i = (p i && decide (t ≠ i))) : bts p N &&& (bts p N ^^^ 2 ^ t) = bts q N := by
  apply Nat.eq_of_testBit_eq
  intro i
  rw [Nat.testBit_and, Nat.testBit_xor, Nat.testBit_two_pow, bts_bit, bts_bit]
  by_cases hi : i < N
  · rw [h i hi]
    simp only [hi, decide_true, Bool.true_and]
    cases p i <;> by_cases e : t = i <;> simp [e]
  · simp [hi]
theorem bts_cg {p q : Nat → Bool} : ∀ N, (∀ i, i < N → p i = q i) → bts p N = bts q N
  | 0, _ => rfl
  | N + 1, h => by rw [bts, bts, bts_cg N (fun i hi => h i (by omega)), h N (by omega)]
theorem fa_1 {f : Nat → Bool} (k : Nat) : fa f (k + 1) 0 = (fa f k 0 && f k) := by
  rw [Bool.eq_iff_iff, Bool.and_eq_true, fa_iff, fa_iff]
  constructor
  · intro h
    exact ⟨fun j h1 h2 => h j h1 (by omega), h k (by omega) (by omega)⟩
  · rintro ⟨h1, h2⟩ j h3 h4
    by_cases e : j = k
    · subst e; exact h2
    · exact h1 j h3 (by omega)
def opM : Option Nat → Int
  | none => -2
  | some i => (i : Int)
def loI (b : Nat) : Int := opM (fst1 (fun i => b.testBit i) (31 - 0) 0)
/-- from state f: the one now is the kept one turned by t eighths; with lines put as P tells -/
def tnB (n : Nat) (ck c : List Gt) (f t : Nat) : Bool := decide ((amV c f).2 = (amV ck f).2) && fa (fun y => decide ((amV c f).1 y = tuQ t ((amV ck f).1 y))) (2 ^ n - 0) 0
def odB (n : Nat) (ck c : List Gt) (f : Nat) (P : Nat → Nat) : Bool := decide ((amV c f).2 = (amV ck f).2) && fa (fun y => decide ((amV c f).1 (exT P y 4) = (amV ck f).1 y)) (2 ^ n - 0) 0
def tnS (n : Nat) (ck c : List Gt) (k : Nat) : Nat := bts (fun t => fa (fun f => tnB n ck c f t) k 0) 8
def odS (n : Nat) (ck c : List Gt) (k : Nat) : Nat := bts (fun i => fa (fun f => odB n ck c f (pOf n ((rwL n n).getD i 0))) k 0) (rwL n n).length
theorem bts_0 {p : Nat → Bool} {q : Nat → Bool} {N : Nat} (h : bts p N = 0) (hq : ∀ i, i < N → q i = true → p i = true) : bts q N = 0 := by
  apply Nat.eq_of_testBit_eq
  intro i
  rw [Nat.zero_testBit, bts_bit]
  by_cases hi : i < N
  · cases hqi : q i with
    | false => simp
    | true =>
      have : (bts p N).testBit i = true := by rw [bts_bit, hq i hi hqi]; simp [hi]
      rw [h, Nat.zero_testBit] at this
      cases this
  · simp [hi]
theorem fa_le {f : Nat → Bool} {k k' : Nat} (h : k ≤ k') (hf : fa f k' 0 = true) : fa f k 0 = true := (fa_iff k 0).mpr fun j h1 h2 => (fa_iff k' 0).mp hf j h1 (by omega)
def aSame (a : AX) (w : Int) : Int :=
  if w < 0 ∨ 2 < w then -1 else match a.2.1 with
  | none => -3
  | some S => if S.1 ≠ a.1.1 then -3 else if w = 2 then loI (odS a.1.1 S.2.1 a.1.2.1 (2 ^ a.1.1)) else if w = 0 then ((tnS a.1.1 S.2.1 a.1.2.1 (2 ^ a.1.1) % 2 : Nat) : Int) else loI (tnS a.1.1 S.2.1 a.1.2.1 (2 ^ a.1.1))
section XF
variable {sh : Shp} {d : Nat} {σ : Mem} {a : AX} {S : SB} {z w v : Int} {b f : Nat}
theorem X139 (hb : b < 2147483648) : run sh (d + 1) 139 [mI (b : Int)] σ = some (some (mI (loI b)), σ) := by
  have w31 : wi 31 = 31 := rfl
  have L := for_dn (fun i => ev sh (d + 1) 139 2 [some (mI ((b : Nat) : Int)), some (mI ((i : Nat) : Int))] [] (σ)) (fun i => some (some (mI (opM (fst1 (fun y => b.testBit y) (31 - i) i))), σ)) (31) (by
    show ev sh (d + 1) 139 2 [some (mI ((b : Nat) : Int)), some (mI (((31) : Nat) : Int))] [] (σ) = some (some (mI (opM (fst1 (fun y => b.testBit y) (31 - (31)) (31)))), σ)
    rw [fst1_e, e139_2]
    simp (disch := first | assumption | omega | (simp (disch := omega) only [wN, w0, w1]; omega)) only [e139_0, e139_1, e139_3, e139_5, e139_8, e139_9, e139_10, e139_11, e139_12, e139_13, e139_16, e139_17, e139_18, e139_21, e139_24, e139_26, kl_I, kl_R, kl_N, kl_L, oSm, oNn, Option.bind_some, wN, if_pos, if_neg, nS, tN, t0, w0, w1, w2, w3, w4, w5, wm1, upA_ne, upA_same, if_true, if_false, Bool.false_eq_true, w31]
    rfl) (fun i hi ih => by
    replace ih : ev sh (d + 1) 139 2 [some (mI ((b : Nat) : Int)), some (mI (((i + 1) : Nat) : Int))] [] (σ) = some (some (mI (opM (fst1 (fun y => b.testBit y) (31 - (i + 1)) (i + 1)))), σ) := ih
    show ev sh (d + 1) 139 2 [some (mI ((b : Nat) : Int)), some (mI ((i : Nat) : Int))] [] (σ) = some (some (mI (opM (fst1 (fun y => b.testBit y) (31 - i) i))), σ)
    have xb := xbit (a := b) (k := i) (by omega) hb
    rw [e139_2, fst1_s hi]
    by_cases hbt : b.testBit i = true
    · simp (disch := first | assumption | omega | (simp (disch := omega) only [wN, w0, w1]; omega)) only [e139_0, e139_1, e139_3, e139_5, e139_8, e139_9, e139_10, e139_11, e139_12, e139_13, e139_16, e139_17, e139_18, e139_21, e139_24, e139_26, kl_I, kl_R, kl_N, kl_L, oSm, oNn, Option.bind_some, wN, if_pos, if_neg, nS, tN, t0, w0, w1, w2, w3, w4, w5, wm1, upA_ne, upA_same, if_true, if_false, Bool.false_eq_true, w31, xb, hbt]
      rfl
    · simp (disch := first | assumption | omega | (simp (disch := omega) only [wN, w0, w1]; omega)) only [e139_0, e139_1, e139_3, e139_5, e139_8, e139_9, e139_10, e139_11, e139_12, e139_13, e139_16, e139_17, e139_18, e139_21, e139_24, e139_26, kl_I, kl_R, kl_N, kl_L, oSm, oNn, Option.bind_some, wN, if_pos, if_neg, nS, tN, t0, w0, w1, w2, w3, w4, w5, wm1, upA_ne, upA_same, if_true, if_false, Bool.false_eq_true, w31, xb, hbt]
      exact ih) 0 (Nat.zero_le _)
  simp (disch := first | assumption | omega | (simp (disch := omega) only [wN, w0, w1]; omega)) only [e139_0, e139_1, e139_3, e139_5, e139_8, e139_9, e139_10, e139_11, e139_12, e139_13, e139_16, e139_17, e139_18, e139_21, e139_24, e139_26, kl_I, kl_R, kl_N, kl_L, oSm, oNn, Option.bind_some, wN, if_pos, if_neg, nS, tN, t0, w0, w1, w2, w3, w4, w5, wm1, upA_ne, upA_same, if_true, if_false, Bool.false_eq_true, q139]
  exact L
/-- both columns are filled -/
def HCC (σ : Mem) (n : Nat) (ck c : List Gt) (f : Nat) : Prop := HC σ 67 n ck f ∧ HC σ 65 n c f
theorem X136 (hX : XS sh) (h : InvX sh σ a) (hK : a.2.1 = some S) (hn : S.1 = a.1.1) (hf : f < 2 ^ a.1.1) : End (run sh (d + 4) 136 [mR 0, mI (f : Int)] σ) (fun r σ' => r = none ∧ InvX sh σ' a ∧ HCC σ' a.1.1 S.2.1 a.1.2.1 f ∧ frB 65 68 σ σ') := by
  have hk2 := h.2.2.1 S hK
  obtain ⟨ho, s0, s1, s3, s4, s5, s6, s7, s8, s9, s10, s11, s12, s13, hnow, hkep, htap, k43, l43, hspg, hspb, htri, hrow, hcol, hkc, k69, l69, hrou, hfin, hsh, hR⟩ := id hX
  obtain ⟨so, u1, u2, u3, sg, sb, sl⟩ := id hnow
  have sgo := sg.1
  have sbo := sb.1
  have slo := sl.1
  have tpo := htap.1
  have spgo := hspg.1
  have spbo := hspb.1
  have trio := htri.1
  have rowo := hrow.1
  have colo := hcol.1
  have kco := hkc.1
  have rouo := hrou.1
  have fino := hfin.1
  have kpo := hkep.1
  obtain ⟨so', v1, v2, v3, kg, kb, kl⟩ := id hkep
  obtain ⟨⟨n, c, m, E, P, x⟩, K, B, s, T⟩ := a
  obtain ⟨⟨hS, hoS⟩, hik, hKp, hTp, h140, hTm, hT1⟩ := id h
  replace hS : HS σ 1 n c m E P (x : Int) := hS
  replace hoS : okZ n c m E P x := hoS
  replace hTp : HP σ 41 B s := hTp
  replace h140 : s ≤ 140 := h140
  replace hTm : HT sh σ 43 T := hTm
  replace hik : σ.1 0 2 = bi K.isSome := hik
  obtain ⟨hS0, hSG, hSB, hSF, hSL, hSx⟩ := id hS
  obtain ⟨n1, n4', c30, hv, m2, m5, E10, hvE, hPk, x16⟩ := id hoS
  obtain ⟨⟨k0, kG, -, -, -, -⟩, ⟨kn1, kn4, kc30, kv, -, -, -, -, -, -⟩⟩ := hk2
  obtain ⟨n', ck, m', E', P', x'⟩ := S
  replace hn : n' = n := hn
  subst hn
  replace k0 : σ.1 21 0 = (n' : Int) := k0
  replace kG : HG σ 22 ck := kG
  replace kc30 : ck.length ≤ 30 := kc30
  replace kv : okC n' ck := kv
  replace hf : f < 2 ^ n' := hf
  obtain ⟨r, σ1, a1, rfl, a3, a4⟩ := C13 (d := d) (s := f) hkc kg kG kc30 (by omega) kv n4' kc30 (by omega) hf
  have hS01 : σ1.1 1 0 = (n' : Int) := by rw [(a4 1 (by omega)).1]; exact hS0
  have hSG1 : HG σ1 2 c := hSG.k (fun b b1 b2 => (a4 b (by omega)).1)
  obtain ⟨r, σ2, b1, rfl, b3, b4⟩ := C13 (d := d) (s := f) hcol sg hSG1 c30 (by omega) hv n4' c30 (by omega) hf
  simp (disch := first | assumption | omega | (simp (disch := omega) only [wN, w0, w1]; omega)) only [e136_0, e136_1, e136_4, e136_5, e136_8, e136_11, e136_12, e136_15, e136_18, e136_19, e136_22, e136_23, e136_26, e136_27, e136_30, e136_33, e136_34, e136_37, e136_40, e136_41, e136_44, kl_I, kl_R, kl_N, kl_L, oSm, oNn, Option.bind_some, wN, if_pos, if_neg, nS, tN, t0, w0, w1, w2, w3, w4, w5, wm1, upA_ne, upA_same, if_true, if_false, Bool.false_eq_true, q136, s0, s1, s9, s10, u1, v1, k0, a1, hS01, b1]
  have f2 : frB 65 68 σ σ2 := (a4.w (by omega) (by omega)).tr (b4.w (by omega) (by omega))
  refine End.of rfl ⟨rfl, h.B f2 (by omega) (by omega), ⟨⟨a3.1.fr b4 (by omega), ?_, ?_⟩, b3⟩, f2⟩
  · rw [(b4 67 (by omega)).1]; exact a3.2.1
  · rw [(b4 67 (by omega)).1]; exact a3.2.2
end XF
