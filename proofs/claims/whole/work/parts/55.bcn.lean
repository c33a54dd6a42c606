/-! ===== how many bits stand in a number ===== -/
theorem and_fld {b d a c : Nat} (n : Nat) (hb : b < 2 ^ n) (hd : d < 2 ^ n) : (2 ^ n * a + b) &&& (2 ^ n * c + d) = 2 ^ n * (a &&& c) + (b &&& d) := by
  have hx : b &&& d < 2 ^ n := Nat.and_lt_two_pow b hd
  apply Nat.eq_of_testBit_eq
  intro j
  rw [Nat.testBit_and, Nat.testBit_two_pow_mul_add a hb, Nat.testBit_two_pow_mul_add c hd, Nat.testBit_two_pow_mul_add (a &&& c) hx]
  split <;> rw [Nat.testBit_and]
theorem and_nib {a b c d : Nat} (hb : b < 16) (hd : d < 16) : (16 * a + b) &&& (16 * c + d) = 16 * (a &&& c) + (b &&& d) := and_fld 4 hb hd
/-- eight digits of sixteen -/
def nib (a b c d e f g h : Nat) : Nat := 16 * (16 * (16 * (16 * (16 * (16 * (16 * h + g) + f) + e) + d) + c) + b) + a
theorem nib_and {a b c d e f g h a' b' c' d' e' f' g' h' : Nat} (h0 : a < 16) (h1 : b < 16) (h2 : c < 16) (h3 : d < 16) (h4 : e < 16) (h5 : f < 16) (h6 : g < 16) (i0 : a' < 16) (i1 : b' < 16) (i2 : c' < 16) (i3 : d' < 16) (i4 : e' < 16) (i5 : f' < 16) (i6 : g' < 16) :
    nib a b c d e f g h &&& nib a' b' c' d' e' f' g' h' = nib (a &&& a') (b &&& b') (c &&& c') (d &&& d') (e &&& e') (f &&& f') (g &&& g') (h &&& h') := by
  unfold nib
  rw [and_nib h0 i0, and_nib h1 i1, and_nib h2 i2, and_nib h3 i3, and_nib h4 i4, and_nib h5 i5, and_nib h6 i6]
theorem n5 : ∀ n, n < 16 → (n + 16) / 2 &&& 5 = n / 2 &&& 5 ∧ (n / 2 &&& 5) ≤ n ∧ (n / 2 &&& 5) < 16 := by decide
theorem n5b : ∀ n, n < 16 → ∀ t, t < 2 → (8 * t + n / 2) &&& 5 = n / 2 &&& 5 := by decide
/-- of one digit -/
def pc4 (n : Nat) : Nat := cnt (fun i => n.testBit i) 4
theorem n3 : ∀ n, n < 16 → ((n - (n / 2 &&& 5)) &&& 3) + ((n - (n / 2 &&& 5)) / 4 &&& 3) = pc4 n ∧ n - (n / 2 &&& 5) < 16 ∧ pc4 n ≤ 4 ∧ (n - (n / 2 &&& 5)) / 4 < 4 := by decide
theorem n3b : ∀ n, n < 4 → ∀ t, t < 4 → (4 * t + n) &&& 3 = n &&& 3 := by decide
theorem n15 : ∀ n, n < 16 → n &&& 15 = n ∧ n &&& 0 = 0 := by decide
theorem nib_cnt {a b c d e f g h : Nat} (h0 : a < 16) (h1 : b < 16) (h2 : c < 16) (h3 : d < 16) (h4 : e < 16) (h5 : f < 16) (h6 : g < 16) : cnt (fun i => (nib a b c d e f g h).testBit i) 32 = pc4 a + pc4 b + pc4 c + pc4 d + pc4 e + pc4 f + pc4 g + pc4 h := by
  have key : ∀ (x y : Nat), x < 16 → ∀ j, (16 * y + x).testBit j = if j < 4 then x.testBit j else y.testBit (j - 4) := fun x y hx j => Nat.testBit_two_pow_mul_add (i := 4) y hx j
  have sh4 : ∀ (x y n : Nat), x < 16 → cnt (fun i => (16 * y + x).testBit i) (n + 4) = pc4 x + cnt (fun i => y.testBit i) n := by
    intro x y n hx
    induction n with
    | zero =>
      rw [Nat.zero_add]
      show cnt _ 4 = pc4 x + 0
      exact cnt_congr 4 (fun i hi => by rw [key x y hx, if_pos hi])
    | succ n ih =>
      have e1 : cnt (fun i => (16 * y + x).testBit i) (n + 1 + 4) = cnt (fun i => (16 * y + x).testBit i) (n + 4) + (if (16 * y + x).testBit (n + 4) = true then 1 else 0) := rfl
      have e2 : cnt (fun i => y.testBit i) (n + 1) = cnt (fun i => y.testBit i) n + (if y.testBit n = true then 1 else 0) := rfl
      have e3 : (16 * y + x).testBit (n + 4) = y.testBit n := by
        have e4 := key x y hx (n + 4)
        rw [if_neg (show ¬ n + 4 < 4 by omega), show n + 4 - 4 = n by omega] at e4
        exact e4
      rw [e1, e2, ih, e3, Nat.add_assoc]
  unfold nib
  rw [sh4 _ _ 28 h0, sh4 _ _ 24 h1, sh4 _ _ 20 h2, sh4 _ _ 16 h3, sh4 _ _ 12 h4, sh4 _ _ 8 h5, sh4 _ _ 4 h6]
  show _ + (_ + (_ + (_ + (_ + (_ + (_ + pc4 h)))))) = _
  omega
theorem nib_add {a b c d e f g h a' b' c' d' e' f' g' h' : Nat} : nib (a + a') (b + b') (c + c') (d + d') (e + e') (f + f') (g + g') (h + h') = nib a b c d e f g h + nib a' b' c' d' e' f' g' h' := by
  unfold nib
  simp only [Nat.mul_add]
  omega
theorem nib_sub {a b c d e f g h a' b' c' d' e' f' g' h' : Nat} (h0 : a' ≤ a) (h1 : b' ≤ b) (h2 : c' ≤ c) (h3 : d' ≤ d) (h4 : e' ≤ e) (h5 : f' ≤ f) (h6 : g' ≤ g) (h7 : h' ≤ h) : nib a b c d e f g h - nib a' b' c' d' e' f' g' h' = nib (a - a') (b - b') (c - c') (d - d') (e - e') (f - f') (g - g') (h - h') ∧ nib a' b' c' d' e' f' g' h' ≤ nib a b c d e f g h := by
  have e1 := nib_add (a := a - a') (b := b - b') (c := c - c') (d := d - d') (e := e - e') (f := f - f') (g := g - g') (h := h - h') (a' := a') (b' := b') (c' := c') (d' := d') (e' := e') (f' := f') (g' := g') (h' := h')
  rw [Nat.sub_add_cancel h0, Nat.sub_add_cancel h1, Nat.sub_add_cancel h2, Nat.sub_add_cancel h3, Nat.sub_add_cancel h4, Nat.sub_add_cancel h5, Nat.sub_add_cancel h6, Nat.sub_add_cancel h7] at e1
  rw [e1]
  exact ⟨Nat.add_sub_cancel _ _, Nat.le_add_left _ _⟩
theorem nb_2 (x y : Nat) : (16 * y + x) / 2 = 16 * (y / 2) + (8 * (y % 2) + x / 2) := by omega
theorem nb_2m (x y : Nat) : (16 * y + x) % 2 = x % 2 := by omega
theorem nb_4 (x y : Nat) : (16 * y + x) / 4 = 16 * (y / 4) + (4 * (y % 4) + x / 4) := by omega
theorem nb_4m (x y : Nat) : (16 * y + x) % 4 = x % 4 := by omega
theorem nib_2 {a b c d e f g h : Nat} : nib a b c d e f g h / 2 = nib (8 * (b % 2) + a / 2) (8 * (c % 2) + b / 2) (8 * (d % 2) + c / 2) (8 * (e % 2) + d / 2) (8 * (f % 2) + e / 2) (8 * (g % 2) + f / 2) (8 * (h % 2) + g / 2) (h / 2) := by
  unfold nib
  simp only [nb_2, nb_2m]
theorem nib_4 {a b c d e f g h : Nat} : nib a b c d e f g h / 4 = nib (4 * (b % 4) + a / 4) (4 * (c % 4) + b / 4) (4 * (d % 4) + c / 4) (4 * (e % 4) + d / 4) (4 * (f % 4) + e / 4) (4 * (g % 4) + f / 4) (4 * (h % 4) + g / 4) (h / 4) := by
  unfold nib
  simp only [nb_4, nb_4m]
theorem nib_16 {a b c d e f g h : Nat} (ha : a < 16) : nib a b c d e f g h / 16 = nib b c d e f g h 0 := by
  unfold nib
  rw [Nat.mul_zero, Nat.zero_add]
  omega
theorem nib_p {A C E G : Nat} : nib A 0 C 0 E 0 G 0 = A + 256 * C + 65536 * E + 16777216 * G := by
  unfold nib
  omega
theorem nib_b {a b c d e f g h : Nat} (h0 : a ≤ 4) (h1 : b ≤ 4) (h2 : c ≤ 4) (h3 : d ≤ 4) (h4 : e ≤ 4) (h5 : f ≤ 4) (h6 : g ≤ 4) (h7 : h ≤ 4) : nib a b c d e f g h < 1200000000 := by
  unfold nib
  omega
theorem m63 {A C E G u : Nat} (hA : A ≤ 8) (hC : C ≤ 8) (hE : E ≤ 8) (hG : G ≤ 8) (hu : u = A + 256 * C + 65536 * E + 16777216 * G) : (u + u / 256 + (u + u / 256) / 65536) % 64 = A + C + E + G ∧ u + u / 256 + (u + u / 256) / 65536 < 2147483648 ∧ u + u / 256 < 2147483648 ∧ u < 2147483648 := by
  have e1 : u / 256 = C + 256 * E + 65536 * G := by omega
  have e2 : (u + u / 256) / 65536 = E + G + 256 * G := by omega
  rw [e2, e1]
  clear e1 e2
  omega
section BCN
variable {sh : Shp} {d x : Nat} {σ : Mem}
theorem xushr_nn {a k : Nat} (hk : k < 32) (h : a < 2147483648) : xushr (a : Int) (k : Int) = ((a / 2 ^ k : Nat) : Int) := by
  have e : ((Int32.ofInt (a : Int)).toUInt32 >>> ((Int32.ofInt (k : Int)).toUInt32 &&& Int32.toUInt32 31)).toNat = a / 2 ^ k := by
    rw [UInt32.toNat_shiftRight]
    have ea : (Int32.ofInt (a : Int)).toUInt32.toNat = a := by
      show (BitVec.ofInt 32 (a : Int)).toNat = a
      rw [BitVec.toNat_ofInt]
      omega
    have ek : ((Int32.ofInt (k : Int)).toUInt32 &&& Int32.toUInt32 31).toNat = k := by
      have : ∀ k : Nat, k < 32 → ((Int32.ofInt (k : Int)).toUInt32 &&& Int32.toUInt32 31).toNat = k := by decide +kernel
      exact this k hk
    rw [ea, ek, Nat.mod_eq_of_lt hk, Nat.shiftRight_eq_div_pow]
  have hq : a / 2 ^ k ≤ a := Nat.div_le_self _ _
  unfold xushr
  show ((Int32.ofInt (a : Int)).toUInt32 >>> ((Int32.ofInt (k : Int)).toUInt32 &&& Int32.toUInt32 31)).toBitVec.toInt = _
  have hb : ((Int32.ofInt (a : Int)).toUInt32 >>> ((Int32.ofInt (k : Int)).toUInt32 &&& Int32.toUInt32 31)).toBitVec.toNat = a / 2 ^ k := e
  rw [BitVec.toInt_eq_toNat_of_lt (by rw [hb]; omega), hb]
theorem Q283 (hx : x < 1073741824) : run sh (d + 1) 283 [mI (x : Int)] σ = some (some (mI (pcD x 30 : Int)), σ) := by
  obtain ⟨a, b, c, d', e, f, g, h, h0, h1, h2, h3, h4, h5, h6, h7, hn⟩ : ∃ a b c d' e f g h, a < 16 ∧ b < 16 ∧ c < 16 ∧ d' < 16 ∧ e < 16 ∧ f < 16 ∧ g < 16 ∧ h < 4 ∧ x = nib a b c d' e f g h :=
    ⟨x % 16, x / 16 % 16, x / 256 % 16, x / 4096 % 16, x / 65536 % 16, x / 1048576 % 16, x / 16777216 % 16, x / 268435456 % 16, by omega, by omega, by omega, by omega, by omega, by omega, by omega, by omega, by unfold nib; omega⟩
  have hcnt : pcD x 30 = pc4 a + pc4 b + pc4 c + pc4 d' + pc4 e + pc4 f + pc4 g + pc4 h := by
    rw [← nib_cnt h0 h1 h2 h3 h4 h5 h6, ← hn]
    have b30 : x.testBit 30 = false := Nat.testBit_lt_two_pow (by omega)
    have b31 : x.testBit 31 = false := Nat.testBit_lt_two_pow (by omega)
    show _ = cnt (fun i => x.testBit i) 32
    rw [cnt, cnt, b30, b31]
    rfl
  have p0 := n3 a h0
  have p1 := n3 b h1
  have p2 := n3 c h2
  have p3 := n3 d' h3
  have p4 := n3 e h4
  have p5 := n3 f h5
  have p6 := n3 g h6
  have p7 := n3 h (by omega)
  have m1 : x / 2 &&& 1431655765 = nib (a / 2 &&& 5) (b / 2 &&& 5) (c / 2 &&& 5) (d' / 2 &&& 5) (e / 2 &&& 5) (f / 2 &&& 5) (g / 2 &&& 5) (h / 2 &&& 5) := by
    have u : ∀ n, n < 16 → ∀ t, 8 * (t % 2) + n / 2 < 16 := fun n hn t => by omega
    rw [hn, nib_2, show (1431655765 : Nat) = nib 5 5 5 5 5 5 5 5 by decide, nib_and (u _ h0 _) (u _ h1 _) (u _ h2 _) (u _ h3 _) (u _ h4 _) (u _ h5 _) (u _ h6 _) (by decide) (by decide) (by decide) (by decide) (by decide) (by decide) (by decide)]
    have v : ∀ t, t % 2 < 2 := fun t => Nat.mod_lt _ (by decide)
    rw [n5b a h0 _ (v _), n5b b h1 _ (v _), n5b c h2 _ (v _), n5b d' h3 _ (v _), n5b e h4 _ (v _), n5b f h5 _ (v _), n5b g h6 _ (v _)]
  have m2 := nib_sub (n5 a h0).2.1 (n5 b h1).2.1 (n5 c h2).2.1 (n5 d' h3).2.1 (n5 e h4).2.1 (n5 f h5).2.1 (n5 g h6).2.1 (n5 h (Nat.lt_of_lt_of_le h7 (by decide))).2.1
  rw [← m1, ← hn] at m2
  generalize hy : x - (x / 2 &&& 1431655765) = y at m2
  generalize a - (a / 2 &&& 5) = a1 at p0 m2
  generalize b - (b / 2 &&& 5) = b1 at p1 m2
  generalize c - (c / 2 &&& 5) = c1 at p2 m2
  generalize d' - (d' / 2 &&& 5) = d1 at p3 m2
  generalize e - (e / 2 &&& 5) = e1 at p4 m2
  generalize f - (f / 2 &&& 5) = f1 at p5 m2
  generalize g - (g / 2 &&& 5) = g1 at p6 m2
  generalize h - (h / 2 &&& 5) = hh1 at p7 m2
  obtain ⟨m2, m2'⟩ := m2
  have m3 : y &&& 858993459 = nib (a1 &&& 3) (b1 &&& 3) (c1 &&& 3) (d1 &&& 3) (e1 &&& 3) (f1 &&& 3) (g1 &&& 3) (hh1 &&& 3) := by
    rw [m2, show (858993459 : Nat) = nib 3 3 3 3 3 3 3 3 by decide, nib_and p0.2.1 p1.2.1 p2.2.1 p3.2.1 p4.2.1 p5.2.1 p6.2.1 (by decide) (by decide) (by decide) (by decide) (by decide) (by decide) (by decide)]
  have m4 : y / 4 &&& 858993459 = nib (a1 / 4 &&& 3) (b1 / 4 &&& 3) (c1 / 4 &&& 3) (d1 / 4 &&& 3) (e1 / 4 &&& 3) (f1 / 4 &&& 3) (g1 / 4 &&& 3) (hh1 / 4 &&& 3) := by
    have u : ∀ n, n / 4 < 4 → ∀ t, 4 * (t % 4) + n / 4 < 16 := fun n hn t => by omega
    rw [m2, nib_4, show (858993459 : Nat) = nib 3 3 3 3 3 3 3 3 by decide, nib_and (u _ p0.2.2.2 _) (u _ p1.2.2.2 _) (u _ p2.2.2.2 _) (u _ p3.2.2.2 _) (u _ p4.2.2.2 _) (u _ p5.2.2.2 _) (u _ p6.2.2.2 _) (by decide) (by decide) (by decide) (by decide) (by decide) (by decide) (by decide)]
    have v : ∀ t, t % 4 < 4 := fun t => Nat.mod_lt _ (by decide)
    rw [n3b _ p0.2.2.2 _ (v _), n3b _ p1.2.2.2 _ (v _), n3b _ p2.2.2.2 _ (v _), n3b _ p3.2.2.2 _ (v _), n3b _ p4.2.2.2 _ (v _), n3b _ p5.2.2.2 _ (v _), n3b _ p6.2.2.2 _ (v _)]
  have m5 : (y &&& 858993459) + (y / 4 &&& 858993459) = nib (pc4 a) (pc4 b) (pc4 c) (pc4 d') (pc4 e) (pc4 f) (pc4 g) (pc4 h) := by
    rw [m3, m4, ← nib_add, p0.1, p1.1, p2.1, p3.1, p4.1, p5.1, p6.1, p7.1]
  have by1 : y < 1073741824 := by omega
  have l0 := p0.2.2.1
  have l1 := p1.2.2.1
  have l2 := p2.2.2.1
  have l3 := p3.2.2.1
  have l4 := p4.2.2.1
  have l5 := p5.2.2.1
  have l6 := p6.2.2.1
  have l7 := p7.2.2.1
  clear p0 p1 p2 p3 p4 p5 p6 p7 m3 m4 m1
  generalize hz : (y &&& 858993459) + (y / 4 &&& 858993459) = z at m5
  have bz := nib_b l0 l1 l2 l3 l4 l5 l6 l7
  rw [← m5] at bz
  have m6 : (z + z / 16) &&& 252645135 = nib (pc4 a + pc4 b) 0 (pc4 c + pc4 d') 0 (pc4 e + pc4 f) 0 (pc4 g + pc4 h) 0 := by
    rw [m5, nib_16 (Nat.lt_of_le_of_lt l0 (by decide)), ← nib_add, show (252645135 : Nat) = nib 15 0 15 0 15 0 15 0 by decide, nib_and (by omega) (by omega) (by omega) (by omega) (by omega) (by omega) (by omega) (by decide) (by decide) (by decide) (by decide) (by decide) (by decide) (by decide)]
    rw [(n15 (pc4 a + pc4 b) (by omega)).1, (n15 (pc4 c + pc4 d') (by omega)).1, (n15 (pc4 e + pc4 f) (by omega)).1, (n15 (pc4 g + pc4 h) (by omega)).1, (n15 (pc4 b + pc4 c) (by omega)).2, (n15 (pc4 d' + pc4 e) (by omega)).2, (n15 (pc4 f + pc4 g) (by omega)).2, (n15 (pc4 h + 0) (by omega)).2]
  rw [nib_p] at m6
  generalize hu : (z + z / 16) &&& 252645135 = u at m6
  have mm := m63 (by omega) (by omega) (by omega) (by omega) m6
  have k1 := xushr_nn (a := x) (k := 1) (by omega) (by omega)
  have k2 := xand_nn (a := x / 2) (b := 1431655765) (by omega)
  have k3 : (x : Int) - ((x / 2 &&& 1431655765 : Nat) : Int) = (y : Int) := by omega
  have k4 := xand_nn (a := y) (b := 858993459) (by omega)
  have k5 := xushr_nn (a := y) (k := 2) (by omega) (by omega)
  have k6 := xand_nn (a := y / 4) (b := 858993459) (by omega)
  have k7 : ((y &&& 858993459 : Nat) : Int) + ((y / 4 &&& 858993459 : Nat) : Int) = (z : Int) := by rw [← hz]; rfl
  have k8 := xushr_nn (a := z) (k := 4) (by omega) (by omega)
  have k9 := xand_nn (a := z + z / 16) (b := 252645135) (by omega)
  rw [hu] at k9
  have j1 := xushr_nn (a := u) (k := 8) (by omega) mm.2.2.2
  have j2 := xushr_nn (a := u + u / 256) (k := 16) (by omega) mm.2.2.1
  have j3 := xand_nn (a := u + u / 256 + (u + u / 256) / 65536) (b := 63) mm.2.1
  have j4 : (u + u / 256 + (u + u / 256) / 65536) &&& 63 = pcD x 30 := by
    rw [show (63 : Nat) = 2 ^ 6 - 1 from rfl, Nat.and_two_pow_sub_one_eq_mod, hcnt]
    have := mm.1
    omega
  rw [j4] at j3
  simp only [Nat.reducePow, show ((1 : Nat) : Int) = 1 from rfl, show ((2 : Nat) : Int) = 2 from rfl, show ((4 : Nat) : Int) = 4 from rfl, show ((8 : Nat) : Int) = 8 from rfl, show ((16 : Nat) : Int) = 16 from rfl, show ((63 : Nat) : Int) = 63 from rfl, show ((1431655765 : Nat) : Int) = 1431655765 from rfl, show ((858993459 : Nat) : Int) = 858993459 from rfl, show ((252645135 : Nat) : Int) = 252645135 from rfl] at k1 k2 k4 k5 k6 k8 k9 j1 j2 j3
  simp (disch := first | assumption | omega | (simp (disch := omega) only [wN, w0, w1]; omega)) only [e283_0, e283_1, e283_2, e283_3, e283_4, e283_7, e283_8, e283_9, e283_10, e283_11, e283_14, e283_15, e283_16, e283_17, e283_18, e283_21, e283_22, e283_23, e283_24, e283_25, e283_26, e283_27, e283_28, e283_29, e283_32, e283_33, e283_34, e283_35, e283_36, e283_38, e283_39, e283_40, e283_41, e283_42, e283_43, e283_45, e283_46, e283_47, e283_48, e283_49, e283_51, e283_52, kl_I, kl_R, kl_N, kl_L, oSm, oNn, Option.bind_some, wN, if_pos, if_neg, nS, tN, t0, w0, w1, w2, w3, w4, w5, wm1, upA_ne, upA_same, if_true, if_false, Bool.false_eq_true, q283, k1, k2, k3, k4, k5, k6, k7, k8, ← Int.natCast_add, k9, j1, j2, j3]
end BCN

