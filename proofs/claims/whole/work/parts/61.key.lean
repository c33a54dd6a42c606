/-! ===== Finder: keys ===== -/
theorem i64_n {a : Nat} (h : a < 9223372036854775808) : (Int64.ofInt (a : Int)).toBitVec.toNat = a := by
  show (BitVec.ofInt 64 (a : Int)).toNat = a
  rw [BitVec.toNat_ofInt]
  omega
theorem i64_i {v : BitVec 64} {a : Nat} (h : v.toNat = a) (ha : a < 9223372036854775808) : v.toInt = (a : Int) := by
  rw [BitVec.toInt_eq_toNat_of_lt (by omega), h]
theorem lushr_nn {a : Nat} (h : a < 9223372036854775808) : lushr' (a : Int) 3 = ((a / 8 : Nat) : Int) := by
  have e : ((Int64.ofInt (a : Int)).toUInt64 >>> ((Int32.ofInt 3).toInt64.toUInt64 &&& Int64.toUInt64 63)).toNat = a / 8 := by
    rw [UInt64.toNat_shiftRight]
    have ea : (Int64.ofInt (a : Int)).toUInt64.toNat = a := i64_n h
    have ek : ((Int32.ofInt 3).toInt64.toUInt64 &&& Int64.toUInt64 63).toNat % 64 = 3 := by decide +kernel
    rw [ea, ek, Nat.shiftRight_eq_div_pow]
  have hq : a / 8 ≤ a := Nat.div_le_self _ _
  exact i64_i (v := ((Int64.ofInt (a : Int)).toUInt64 >>> ((Int32.ofInt 3).toInt64.toUInt64 &&& Int64.toUInt64 63)).toBitVec) e (by omega)
theorem land_nn {a b : Nat} (h : a < 9223372036854775808) (hb : b < 9223372036854775808) : land' (a : Int) (b : Int) = ((a &&& b : Nat) : Int) := by
  refine i64_i (v := (Int64.ofInt (a : Int)).toBitVec &&& (Int64.ofInt (b : Int)).toBitVec) ?_ (Nat.lt_of_le_of_lt Nat.and_le_left h)
  rw [BitVec.toNat_and, i64_n h, i64_n hb]
theorem land_7 {a : Nat} (h : a < 9223372036854775808) : land' (a : Int) 7 = ((a % 8 : Nat) : Int) := by
  have e := land_nn h (b := 7) (by omega)
  rw [show (7 : Nat) = 2 ^ 3 - 1 from rfl, Nat.and_two_pow_sub_one_eq_mod] at e
  exact e
theorem lor_nn {a b : Nat} (h : a < 9223372036854775808) (hb : b < 9223372036854775808) : lor' (a : Int) (b : Int) = ((a ||| b : Nat) : Int) := by
  refine i64_i (v := (Int64.ofInt (a : Int)).toBitVec ||| (Int64.ofInt (b : Int)).toBitVec) ?_ (Nat.or_lt_two_pow (n := 63) h hb)
  rw [BitVec.toNat_or, i64_n h, i64_n hb]
theorem lshl_k {a s : Nat} {y : Int} (hy : ((Int32.ofInt y).toInt64 &&& 63).toBitVec.smod 64 = BitVec.ofNat 64 s) (hs : s < 64) (h : a * 2 ^ s < 9223372036854775808) : lshl' (a : Int) y = ((a * 2 ^ s : Nat) : Int) := by
  have ha : a ≤ a * 2 ^ s := Nat.le_mul_of_pos_right _ (Nat.two_pow_pos s)
  refine i64_i (v := (Int64.ofInt (a : Int)).toBitVec <<< (((Int32.ofInt y).toInt64 &&& 63).toBitVec.smod 64)) ?_ h
  rw [hy, BitVec.shiftLeft_eq', BitVec.toNat_ofNat, Nat.mod_eq_of_lt (by omega : s < 2 ^ 64), BitVec.toNat_shiftLeft, i64_n (by omega), Nat.shiftLeft_eq, Nat.mod_eq_of_lt (by omega)]
theorem lshl_30 {a : Nat} (h : a < 4096) : lshl' (a : Int) 30 = ((a * 1073741824 : Nat) : Int) := lshl_k (s := 30) (by decide +kernel) (by omega) (by omega)
theorem lshl_3 {a : Nat} (h : a < 4398046511104) : lshl' (a : Int) 3 = ((a * 8 : Nat) : Int) := lshl_k (s := 3) (by decide +kernel) (by omega) (by omega)
theorem or_add {a b : Nat} (s : Nat) (h : b < 2 ^ s) : a * 2 ^ s ||| b = a * 2 ^ s + b := by
  have e := Nat.shiftLeft_add_eq_or_of_lt h a
  rw [Nat.shiftLeft_eq] at e
  exact e.symm
/-! ===== Course: a swap leaves the cells of no line ===== -/
section CRX
variable {sh : Shp} {d k l n m e D p q : Nat} {σ : Mem} {c : List Gt} {E : List Ed} {A P : Nat → Nat}
theorem Y79c {r : Option MV} {σ' : Mem} (hs : lyS sh l) (hL : HL σ l n P) (hn : n ≤ 4) (hp : p < 5) (hq : q < 5) (hr : run sh (d + 2) 79 [mR l, mI (p : Int), mI (q : Int)] σ = some (r, σ')) : ∀ x, n ≤ x → σ'.1 (l + 1) x = σ.1 (l + 1) x := by
  have ho := hs.1
  have nn : ¬ 0 ≤ wi (-1 : Int) := by rw [wm1]; decide
  have key : ∀ u : Int, (u = -1 ∨ ∃ x : Nat, x < n ∧ u = x) → (0 ≤ wi u ∧ wi u < 4 ∨ wi u < 0) := by
    rintro u (rfl | ⟨x, h1, rfl⟩)
    · right; rw [wm1]; omega
    · left; rw [wN (by omega)]; omega
  have cc : ∀ p, laS P p n = -1 ∨ ∃ x : Nat, x < n ∧ laS P p n = x := by
    intro p
    rcases laS_cases P p n with ⟨h1, _⟩ | ⟨x, h1, h2, _⟩
    · exact Or.inl h1
    · exact Or.inr ⟨x, h1, h2⟩
  have c1 := cc p
  have c2 := cc q
  have y80 : ∀ (u : Int) (σ : Mem) (r : Nat), (u = -1 ∨ ∃ x : Nat, x < n ∧ u = x) → r < 5 → ∃ σ2, run sh (d + 1) 80 [mR l, mI u, mI (r : Int)] σ = some (none, σ2) ∧ ∀ x, n ≤ x → σ2.1 (l + 1) x = σ.1 (l + 1) x := by
    intro u σ r hu hr
    refine ⟨_, Y80 hs (key _ hu) hr, fun x hx => ?_⟩
    rcases hu with rfl | ⟨y, hy, rfl⟩
    · rw [if_neg nn]
      show upA _ _ _ _ _ = _
      rw [upA_ne (by omega)]
    · rw [wN (by omega), if_pos (by omega), tN]
      show upA (upA _ _ _) _ _ _ _ = _
      rw [upA_same, up1_ne (by omega)]
  obtain ⟨σ1, a1, a2⟩ := y80 (laS P p n) σ q c1 hq
  obtain ⟨σ2, b1, b2⟩ := y80 (laS P q n) σ1 p c2 hp
  simp (disch := first | assumption | omega | (simp (disch := omega) only [wN, w0, w1]; omega)) only [e79_0, e79_1, e79_2, e79_5, e79_6, e79_7, e79_8, e79_11, e79_13, e79_14, e79_15, e79_16, e79_19, e79_20, e79_22, e79_23, e79_26, kl_I, kl_R, kl_N, kl_L, oSm, oNn, Option.bind_some, wN, if_pos, if_neg, nS, tN, t0, w0, w1, w2, w3, w4, w5, wm1, upA_ne, upA_same, if_true, if_false, Bool.false_eq_true, q79, N78 hs hL hp, N78 hs hL hq, a1, b1] at hr
  cases hr
  intro x hx
  rw [b2 x hx, a2 x hx]
theorem U36x (hs : crS sh k) (hK : HKs σ k c m E A) (hM : HKm σ k n P D) (hk : okK n m c E) (hP : okP n m P) (he : e < E.length) : End (run sh (d + 3) 36 [mR k, mI (e : Int)] σ) (fun r σ' => r = none ∧ HKs σ' k c m E A ∧ HKm σ' k n (swP (eA E e).1 (eA E e).2 P) D ∧ frI (k + 18) (k + 19) σ σ' ∧ ∀ x, n ≤ x → σ'.1 (k + 18) x = σ.1 (k + 18) x) := by
  obtain ⟨ho, r0, r1, r2, r3, hg, hB, hL, k1, l1, hw⟩ := id hs
  obtain ⟨hn, hm, hE, h30, hv, hvE⟩ := id hk
  have hbo := hB.1
  have hlo := hL.1
  have h5 := hvE.at he
  obtain ⟨r, σ1, f1, rfl, f3, f4⟩ := Y79 (d := d) hL hM.1 hP hn hm (show (eA E e).1 < m by omega) (show (eA E e).2 < m by omega)
  have f5 := Y79c (d := d) hL hM.1 hn (show (eA E e).1 < 5 by omega) (show (eA E e).2 < 5 by omega) f1
  simp (disch := first | assumption | omega | (simp (disch := omega) only [wN, w0, w1]; omega)) only [e36_0, e36_1, e36_4, e36_5, e36_8, e36_9, e36_12, e36_13, e36_16, e36_17, e36_20, e36_23, kl_I, kl_R, kl_N, kl_L, oSm, oNn, Option.bind_some, wN, if_pos, if_neg, nS, tN, t0, w0, w1, w2, w3, w4, w5, wm1, upA_ne, upA_same, if_true, if_false, Bool.false_eq_true, q36, r1, r2, N3 hB hK.2.1 hE he, N4 hB hK.2.1 hE he, f1]
  refine End.of rfl ⟨rfl, hK.fr f4 (by omega), ⟨f3, ?_⟩, f4.w (by omega) (by omega), f5⟩
  rw [f4.1 _ (by omega)]; exact hM.2
end CRX

