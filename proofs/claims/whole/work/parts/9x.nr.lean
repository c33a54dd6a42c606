/-! ===== the reference: the cheapest edge ===== -/
section NR
variable {sh : Shp} {d m n g : Nat} {σ : Mem} {E : List Ed} {a : AX} {z w : Int} {c : List Gt} {P A : Nat → Nat} {b : Bool} {x : Nat × (Nat → Nat) × List Sp}
theorem fa_le99 {S : Nat} {Q : Nat → Nat} (hQ : okP n m Q) (hm : m ≤ 5) (hv : okC n c) (hc : c.length ≤ 30) (h2 : ∀ g, g < c.length → S.testBit g = true → 3 ≤ (gA c g).1) : faS (farE E) c Q S c.length ≤ 2970 := by
  have := faS_le (F := farE E) (S := S) (fun p _ q _ => farE_le E p q) hQ hm hv h2 c.length (Nat.le_refl _)
  omega
theorem M255 {fr nx e : Nat} {wr : Nat → Nat} (hM : MS sh) (hR : RC σ n m c E A) (hc : c.length ≤ 30) (hv : okC n c) (hn : n ≤ 4) (hm : m ≤ 5) (hvE : okE m E) (h10 : E.length ≤ 10) (hL : HLm σ 147 n P) (hLx : ∀ l, n ≤ l → l < 4 → σ.1 147 l = -1) (hP : okP n m P) (h49 : σ.1 124 49 = (fr : Int)) (h50 : σ.1 124 50 = (nx : Int)) (hfr : fr < 2 ^ c.length) (hnx : nx < 2 ^ c.length) (f2 : ∀ g, g < c.length → fr.testBit g = true → 3 ≤ (gA c g).1) (n2 : ∀ g, g < c.length → nx.testBit g = true → 3 ≤ (gA c g).1) (hW : ∀ p, p < 5 → σ.1 149 p = (wr p : Int) ∧ wr p ≤ 40) (he : e < E.length) : End (run sh (d + 3) 255 [mR 124, mI (e : Int)] σ) (fun r σ' => r = some (mI (csS (farE E) c E P wr fr nx e : Int)) ∧ frW 148 148 1 0 σ σ') := by
  have mo := hM.1
  have m160 := hM.2.1
  obtain ⟨ra2, rk2, rl2⟩ := ms2 hM
  obtain ⟨ra3, rk3, rl3⟩ := ms3 hM
  obtain ⟨ra41, rk41, rl41⟩ := ms41 hM
  obtain ⟨ra42, rk42, rl42⟩ := ms42 hM
  obtain ⟨ra43, rk43, rl43⟩ := ms43 hM
  have hk := hvE.at he
  have cl : ∀ l, l < 4 → -1 ≤ σ.1 147 l ∧ σ.1 147 l < 5 := fun l hl => by
    by_cases q : l < n
    · have := hL l q
      have := hP.1 l q
      omega
    · have := hLx l (by omega) hl
      omega
  have L := for_P (4) (fun i => ∀ (σ1 : Mem), ((∀ l, l < i → σ1.1 148 l = σ.1 147 l) ∧ frW 148 148 1 0 σ σ1) → End (ev sh (d + 3) 255 2 [some (mR (124)), some (mI ((e : Nat) : Int)), some (mI ((i : Nat) : Int))] [] σ1) (fun r σ' => r = some (mI (csS (farE E) c E P wr fr nx e : Int)) ∧ frW 148 148 1 0 σ σ')) (by
    intro σ1  hp
    replace hp : (∀ l, l < (4) → σ1.1 148 l = σ.1 147 l) ∧ frW 148 148 1 0 σ σ1 := hp
    show End (ev sh (d + 3) 255 2 [some (mR (124)), some (mI ((e : Nat) : Int)), some (mI (((4) : Nat) : Int))] [] σ1) (fun r σ' => r = some (mI (csS (farE E) c E P wr fr nx e : Int)) ∧ frW 148 148 1 0 σ σ')
    obtain ⟨q1, q2⟩ := hp
    have hR1 := hR.W q2 (by omega) (by omega)
    obtain ⟨g1, g2⟩ := hR1.2.2.2.1 e he
    obtain ⟨σ2, s1, s2, s3, s4⟩ := M252 (d := d + 2) (σ := σ1) (q := 148) (y1 := (eA E e).1) (y2 := (eA E e).2) rk42 rl42 (by omega) (by omega) (by omega) (fun l hl => by rw [q1 l hl]; exact cl l hl)
    have fr2 : frW 148 148 1 0 σ1 σ2 := ⟨fun b hb _ => ⟨s3 b (by omega), by rw [s4]⟩, fun i _ => by rw [s3 124 (by omega)]⟩
    have f3 := q2.tr fr2
    have hR2 := hR.W f3 (by omega) (by omega)
    have hL2 : HLm σ2 148 n (swP (eA E e).1 (eA E e).2 P) := fun l hl => by
      rw [s2 l (by omega), q1 l (by omega), hL l hl]
      unfold swP
      by_cases x1 : P l = (eA E e).1
      · rw [if_pos x1, if_pos (by rw [x1])]
      · rw [if_neg x1, if_neg (by omega)]
        by_cases x2 : P l = (eA E e).2
        · rw [if_pos x2, if_pos (by rw [x2])]
        · rw [if_neg x2, if_neg (by omega)]
    have hP2 : okP n m (swP (eA E e).1 (eA E e).2 P) := hP.sw (by omega) (by omega)
    have b1 := M253 (d := d) (S := fr) hM hR2 hc hv hn hm hL2 hP2 hfr f2
    have b2 := M253 (d := d) (S := nx) hM hR2 hc hv hn hm hL2 hP2 hnx n2
    have h492 : σ2.1 124 49 = (fr : Int) := by rw [f3.2 49 (by omega)]; exact h49
    have h502 : σ2.1 124 50 = (nx : Int) := by rw [f3.2 50 (by omega)]; exact h50
    obtain ⟨k1, k2⟩ := hR2.2.2.2.1 e he
    have w1 : σ2.1 149 (eA E e).1 = (wr (eA E e).1 : Int) := by rw [(f3.1 149 (by omega) (by omega)).1]; exact (hW _ (by omega)).1
    have w2 : σ2.1 149 (eA E e).2 = (wr (eA E e).2 : Int) := by rw [(f3.1 149 (by omega) (by omega)).1]; exact (hW _ (by omega)).1
    have v1 := (hW (eA E e).1 (by omega)).2
    have v2 := (hW (eA E e).2 (by omega)).2
    have z1 := E168 (sh := sh) (d := d + 2) (σ := σ2) (b := fr) (D30 hfr hc)
    have z2 := E168 (sh := sh) (d := d + 2) (σ := σ2) (b := nx) (D30 hnx hc)
    have p1 := pcD_le fr 30
    have p2 := pcD_le nx 30
    have m1 := E166n (sh := sh) (d := d + 2) (σ := σ2) (p := 1) (q := pcD nx 30) (by omega) (by omega)
    replace m1 : run sh (d + 2) 166 [mI 1, mI (pcD nx 30 : Int)] σ2 = some (some (mI ((max 1 (pcD nx 30) : Nat) : Int)), σ2) := m1
    have m2 := E166n (sh := sh) (d := d + 2) (σ := σ2) (p := wr (eA E e).1) (q := wr (eA E e).2) (by omega) (by omega)
    have e1 : (csS (farE E) c E P wr fr nx e : Int) = ((faS (farE E) c (swP (eA E e).1 (eA E e).2 P) fr c.length : Int) * 2 * ((max 1 (pcD nx 30) : Nat) : Int) + (faS (farE E) c (swP (eA E e).1 (eA E e).2 P) nx c.length : Int) * (pcD fr 30 : Int)) * (10 + ((max (wr (eA E e).1) (wr (eA E e).2) : Nat) : Int)) := by
      unfold csS
      rw [Nat.max_comm (pcD nx 30) 1]
      simp only [Int.natCast_mul, Int.natCast_add]
      rw [Int.mul_assoc]
      rfl
    rw [e255_2]
    simp (disch := first | assumption | omega | (simp (disch := omega) only [wN, w0, w1]; omega)) only [e255_0, e255_1, e255_3, e255_4, e255_7, e255_8, e255_11, e255_12, e255_13, e255_16, e255_17, e255_18, e255_19, e255_22, e255_25, e255_26, e255_29, e255_30, e255_33, e255_34, e255_35, e255_36, e255_39, e255_40, e255_41, e255_44, e255_45, e255_46, e255_49, e255_52, e255_53, e255_54, e255_55, e255_56, e255_59, e255_62, e255_65, e255_66, e255_67, e255_68, e255_71, e255_74, e255_75, e255_78, e255_81, e255_82, e255_83, e255_84, e255_85, e255_87, e255_88, e255_91, e255_92, e255_95, e255_96, e255_97, e255_98, e255_99, e255_102, e255_103, e255_106, e255_107, e255_108, e255_109, e255_112, e255_113, e255_114, kl_I, kl_R, kl_N, kl_L, oSm, oNn, Option.bind_some, wN, if_pos, if_neg, nS, tN, t0, w0, w1, w2, w3, w4, w5, wm1, upA_ne, upA_same, if_true, if_false, Bool.false_eq_true, ra2, rl2, ra3, rl3, ra42, rl42, ra43, rl43, g1, g2, s1, h492, h502, b1, b2, z1, z2, m1, k1, k2, w1, w2, m2]
    exact End.of rfl ⟨by rw [e1], f3⟩) (fun i hi ih => by
    replace ih : ∀ (σ1 : Mem), ((∀ l, l < (i + 1) → σ1.1 148 l = σ.1 147 l) ∧ frW 148 148 1 0 σ σ1) → End (ev sh (d + 3) 255 2 [some (mR (124)), some (mI ((e : Nat) : Int)), some (mI (((i + 1) : Nat) : Int))] [] σ1) (fun r σ' => r = some (mI (csS (farE E) c E P wr fr nx e : Int)) ∧ frW 148 148 1 0 σ σ') := ih
    intro σ1  hp
    replace hp : (∀ l, l < i → σ1.1 148 l = σ.1 147 l) ∧ frW 148 148 1 0 σ σ1 := hp
    show End (ev sh (d + 3) 255 2 [some (mR (124)), some (mI ((e : Nat) : Int)), some (mI ((i : Nat) : Int))] [] σ1) (fun r σ' => r = some (mI (csS (farE E) c E P wr fr nx e : Int)) ∧ frW 148 148 1 0 σ σ')
    obtain ⟨q1, q2⟩ := hp
    have g : σ1.1 147 i = σ.1 147 i := by rw [(q2.1 147 (by omega) (by omega)).1]
    rw [e255_2]
    simp (disch := first | assumption | omega | (simp (disch := omega) only [wN, w0, w1]; omega)) only [e255_0, e255_1, e255_3, e255_4, e255_7, e255_8, e255_11, e255_12, e255_13, e255_16, e255_17, e255_18, e255_19, e255_22, e255_25, e255_26, e255_29, e255_30, e255_33, e255_34, e255_35, e255_36, e255_39, e255_40, e255_41, e255_44, e255_45, e255_46, e255_49, e255_52, e255_53, e255_54, e255_55, e255_56, e255_59, e255_62, e255_65, e255_66, e255_67, e255_68, e255_71, e255_74, e255_75, e255_78, e255_81, e255_82, e255_83, e255_84, e255_85, e255_87, e255_88, e255_91, e255_92, e255_95, e255_96, e255_97, e255_98, e255_99, e255_102, e255_103, e255_106, e255_107, e255_108, e255_109, e255_112, e255_113, e255_114, kl_I, kl_R, kl_N, kl_L, oSm, oNn, Option.bind_some, wN, if_pos, if_neg, nS, tN, t0, w0, w1, w2, w3, w4, w5, wm1, upA_ne, upA_same, if_true, if_false, Bool.false_eq_true, ra41, rl41, ra42, rl42, g]
    refine ih _ ⟨fun l hl => ?_, q2.tr (frW.a (by omega) (by omega))⟩
    simp (disch := omega) only [upA_same]
    by_cases q : l = i
    · rw [q, up1_same]
    · rw [up1_ne q]; exact q1 l (by omega)) 0 (Nat.zero_le _)
  simp (disch := first | assumption | omega | (simp (disch := omega) only [wN, w0, w1]; omega)) only [e255_0, e255_1, e255_3, e255_4, e255_7, e255_8, e255_11, e255_12, e255_13, e255_16, e255_17, e255_18, e255_19, e255_22, e255_25, e255_26, e255_29, e255_30, e255_33, e255_34, e255_35, e255_36, e255_39, e255_40, e255_41, e255_44, e255_45, e255_46, e255_49, e255_52, e255_53, e255_54, e255_55, e255_56, e255_59, e255_62, e255_65, e255_66, e255_67, e255_68, e255_71, e255_74, e255_75, e255_78, e255_81, e255_82, e255_83, e255_84, e255_85, e255_87, e255_88, e255_91, e255_92, e255_95, e255_96, e255_97, e255_98, e255_99, e255_102, e255_103, e255_106, e255_107, e255_108, e255_109, e255_112, e255_113, e255_114, kl_I, kl_R, kl_N, kl_L, oSm, oNn, Option.bind_some, wN, if_pos, if_neg, nS, tN, t0, w0, w1, w2, w3, w4, w5, wm1, upA_ne, upA_same, if_true, if_false, Bool.false_eq_true, q255]
  exact L σ ⟨fun l hl => by omega, frW.rf⟩
theorem M256 {fr nx : Nat} {wr : Nat → Nat} (hM : MS sh) (hR : RC σ n m c E A) (hc : c.length ≤ 30) (hv : okC n c) (hn : n ≤ 4) (hm : m ≤ 5) (hvE : okE m E) (h10 : E.length ≤ 10) (hL : HLm σ 147 n P) (hLx : ∀ l, n ≤ l → l < 4 → σ.1 147 l = -1) (hP : okP n m P) (h49 : σ.1 124 49 = (fr : Int)) (h50 : σ.1 124 50 = (nx : Int)) (hfr : fr < 2 ^ c.length) (hnx : nx < 2 ^ c.length) (f2 : ∀ g, g < c.length → fr.testBit g = true → 3 ≤ (gA c g).1) (n2 : ∀ g, g < c.length → nx.testBit g = true → 3 ≤ (gA c g).1) (hW : ∀ p, p < 5 → σ.1 149 p = (wr p : Int) ∧ wr p ≤ 40) : End (run sh (d + 4) 256 [mR 124] σ) (fun r σ' => r = some (mI (beS (farE E) c E P wr fr nx (plS c P fr c.length) E.length).2) ∧ frW 148 148 1 0 σ σ') := by
  have mo := hM.1
  have m160 := hM.2.1
  obtain ⟨ra2, rk2, rl2⟩ := ms2 hM
  obtain ⟨ra3, rk3, rl3⟩ := ms3 hM
  have wF : wi 1000000000 = 1000000000 := rfl
  have L := for_P (E.length) (fun i => ∀ (σ1 : Mem) (v4 : Option MV), (frW 148 148 1 0 σ σ1) → End (ev sh (d + 4) 256 8 [some (mR (124)), some (mI ((beS (farE E) c E P wr fr nx (plS c P fr c.length) i).2)), some (mI (((beS (farE E) c E P wr fr nx (plS c P fr c.length) i).1 : Nat) : Int)), some (mI ((i : Nat) : Int)), v4] [] σ1) (fun r σ' => r = some (mI (beS (farE E) c E P wr fr nx (plS c P fr c.length) E.length).2) ∧ frW 148 148 1 0 σ σ')) (by
    intro σ1 v4 hp
    replace hp : frW 148 148 1 0 σ σ1 := hp
    show End (ev sh (d + 4) 256 8 [some (mR (124)), some (mI ((beS (farE E) c E P wr fr nx (plS c P fr c.length) (E.length)).2)), some (mI (((beS (farE E) c E P wr fr nx (plS c P fr c.length) (E.length)).1 : Nat) : Int)), some (mI (((E.length) : Nat) : Int)), v4] [] σ1) (fun r σ' => r = some (mI (beS (farE E) c E P wr fr nx (plS c P fr c.length) E.length).2) ∧ frW 148 148 1 0 σ σ')
    have hR1 := hR.W hp (by omega) (by omega)
    have hl := hR1.2.2.2.2.1
    rw [e256_8]
    simp (disch := first | assumption | omega | (simp (disch := omega) only [wN, w0, w1]; omega)) only [e256_0, e256_1, e256_2, e256_5, e256_6, e256_7, e256_9, e256_10, e256_13, e256_16, e256_17, e256_18, e256_21, e256_22, e256_23, e256_26, e256_29, e256_30, e256_31, e256_34, e256_35, e256_36, e256_39, e256_42, e256_45, e256_46, e256_47, e256_50, e256_52, e256_54, e256_55, e256_58, e256_59, e256_60, e256_61, e256_63, e256_66, e256_67, e256_70, e256_73, e256_74, kl_I, kl_R, kl_N, kl_L, oSm, oNn, Option.bind_some, wN, if_pos, if_neg, nS, tN, t0, w0, w1, w2, w3, w4, w5, wm1, upA_ne, upA_same, if_true, if_false, Bool.false_eq_true, hl]
    exact End.of rfl ⟨rfl, hp⟩) (fun i hi ih => by
    replace ih : ∀ (σ1 : Mem) (v4 : Option MV), (frW 148 148 1 0 σ σ1) → End (ev sh (d + 4) 256 8 [some (mR (124)), some (mI ((beS (farE E) c E P wr fr nx (plS c P fr c.length) (i + 1)).2)), some (mI (((beS (farE E) c E P wr fr nx (plS c P fr c.length) (i + 1)).1 : Nat) : Int)), some (mI (((i + 1) : Nat) : Int)), v4] [] σ1) (fun r σ' => r = some (mI (beS (farE E) c E P wr fr nx (plS c P fr c.length) E.length).2) ∧ frW 148 148 1 0 σ σ') := ih
    intro σ1 v4 hp
    replace hp : frW 148 148 1 0 σ σ1 := hp
    show End (ev sh (d + 4) 256 8 [some (mR (124)), some (mI ((beS (farE E) c E P wr fr nx (plS c P fr c.length) i).2)), some (mI (((beS (farE E) c E P wr fr nx (plS c P fr c.length) i).1 : Nat) : Int)), some (mI ((i : Nat) : Int)), v4] [] σ1) (fun r σ' => r = some (mI (beS (farE E) c E P wr fr nx (plS c P fr c.length) E.length).2) ∧ frW 148 148 1 0 σ σ')
    have hR1 := hR.W hp (by omega) (by omega)
    have hl := hR1.2.2.2.2.1
    obtain ⟨g1, g2⟩ := hR1.2.2.2.1 i hi
    have hk := hvE.at hi
    have k147 : σ1.1 147 = σ.1 147 := (hp.1 147 (by omega) (by omega)).1
    have hL1 : HLm σ1 147 n P := fun y hy => by rw [k147]; exact hL y hy
    have h491 : σ1.1 124 49 = (fr : Int) := by rw [hp.2 49 (by omega)]; exact h49
    have h501 : σ1.1 124 50 = (nx : Int) := by rw [hp.2 50 (by omega)]; exact h50
    have a1 := M254 (d := d + 2) (p := (eA E i).1) hM hR1 hc hv hn hm hL1 hP h491 hfr f2 (by omega)
    have a2 := M254 (d := d + 2) (p := (eA E i).2) hM hR1 hc hv hn hm hL1 hP h491 hfr f2 (by omega)
    obtain ⟨r, σ2, b1, rfl, b2⟩ := M255 (d := d) (e := i) hM hR1 hc hv hn hm hvE h10 hL1 (fun l p q => by rw [k147]; exact hLx l p q) hP h491 h501 hfr hnx f2 n2 (fun p hp5 => by rw [(hp.1 149 (by omega) (by omega)).1]; exact hW p hp5) hi
    have hp2 := hp.tr b2
    have br := beS_r (F := farE E) (c := c) (E := E) (P := P) (w := wr) (fr := fr) (nx := nx) (H := plS c P fr c.length) i
    have hP2 : okP n m (swP (eA E i).1 (eA E i).2 P) := hP.sw (by omega) (by omega)
    have l1 := fa_le99 (E := E) (S := fr) hP2 hm hv hc f2
    have l2 := fa_le99 (E := E) (S := nx) hP2 hm hv hc n2
    have cb : csS (farE E) c E P wr fr nx i < 2147483648 := by
      have p1 := pcD_le fr 30
      have p2 := pcD_le nx 30
      have v1 := (hW (eA E i).1 (by omega)).2
      have v2 := (hW (eA E i).2 (by omega)).2
      unfold csS
      have x1 : faS (farE E) c (swP (eA E i).1 (eA E i).2 P) fr c.length * (2 * max (pcD nx 30) 1) ≤ 2970 * 60 := Nat.mul_le_mul l1 (by omega)
      have x2 : faS (farE E) c (swP (eA E i).1 (eA E i).2 P) nx c.length * pcD fr 30 ≤ 2970 * 30 := Nat.mul_le_mul l2 (by omega)
      have x3 : (faS (farE E) c (swP (eA E i).1 (eA E i).2 P) fr c.length * (2 * max (pcD nx 30) 1) + faS (farE E) c (swP (eA E i).1 (eA E i).2 P) nx c.length * pcD fr 30) * (10 + max (wr (eA E i).1) (wr (eA E i).2)) ≤ (2970 * 60 + 2970 * 30) * 50 := Nat.mul_le_mul (by omega) (by omega)
      omega
    rw [beS] at ih
    unfold hdB at ih
    generalize hBe : beS (farE E) c E P wr fr nx (plS c P fr c.length) i = be at *
    obtain ⟨ls, bs⟩ := be
    simp only at *
    generalize csS (farE E) c E P wr fr nx i = cs at *
    have e5 := E165n (sh := sh) (d := d + 3) (σ := σ2) (p := ls) (q := cs) (by omega) cb
    have yes : (((plS c P fr c.length).testBit (eA E i).1 || (plS c P fr c.length).testBit (eA E i).2) = true) → (if ((plS c P fr c.length).testBit (eA E i).1 || (plS c P fr c.length).testBit (eA E i).2) = true ∧ cs < ls then (cs, (i : Int)) else (ls, bs)) = (min ls cs, if cs < ls then (i : Int) else bs) := fun q => by
      by_cases q2 : cs < ls
      · rw [if_pos ⟨q, q2⟩, if_pos q2, Nat.min_eq_right (by omega)]
      · rw [if_neg (fun h => q2 h.2), if_neg q2, Nat.min_eq_left (by omega)]
    rw [e256_8]
    by_cases q1 : (plS c P fr c.length).testBit (eA E i).1 = true
    · rw [yes (by rw [q1]; rfl)] at ih
      rw [q1] at a1
      replace a1 : run sh (d + 3) 254 [mR 124, mI ((eA E i).1 : Int)] σ1 = some (some (mI 1), σ1) := a1
      clear yes a2
      by_cases q3 : cs < ls
      · rw [if_pos q3] at ih
        simp (disch := first | assumption | omega | (simp (disch := omega) only [wN, w0, w1]; omega)) only [e256_0, e256_1, e256_2, e256_5, e256_6, e256_7, e256_9, e256_10, e256_13, e256_16, e256_17, e256_18, e256_21, e256_22, e256_23, e256_26, e256_29, e256_30, e256_31, e256_34, e256_35, e256_36, e256_39, e256_42, e256_45, e256_46, e256_47, e256_50, e256_52, e256_54, e256_55, e256_58, e256_59, e256_60, e256_61, e256_63, e256_66, e256_67, e256_70, e256_73, e256_74, kl_I, kl_R, kl_N, kl_L, oSm, oNn, Option.bind_some, wN, if_pos, if_neg, nS, tN, t0, w0, w1, w2, w3, w4, w5, wm1, upA_ne, upA_same, if_true, if_false, Bool.false_eq_true, hl, ra2, rl2, ra3, rl3, g1, a1, b1, e5]
        exact ih _ _ hp2
      · rw [if_neg q3] at ih
        simp (disch := first | assumption | omega | (simp (disch := omega) only [wN, w0, w1]; omega)) only [e256_0, e256_1, e256_2, e256_5, e256_6, e256_7, e256_9, e256_10, e256_13, e256_16, e256_17, e256_18, e256_21, e256_22, e256_23, e256_26, e256_29, e256_30, e256_31, e256_34, e256_35, e256_36, e256_39, e256_42, e256_45, e256_46, e256_47, e256_50, e256_52, e256_54, e256_55, e256_58, e256_59, e256_60, e256_61, e256_63, e256_66, e256_67, e256_70, e256_73, e256_74, kl_I, kl_R, kl_N, kl_L, oSm, oNn, Option.bind_some, wN, if_pos, if_neg, nS, tN, t0, w0, w1, w2, w3, w4, w5, wm1, upA_ne, upA_same, if_true, if_false, Bool.false_eq_true, hl, ra2, rl2, ra3, rl3, g1, a1, b1, e5]
        exact ih _ _ hp2
    · have q1' : (plS c P fr c.length).testBit (eA E i).1 = false := by simpa using q1
      rw [q1'] at a1
      replace a1 : run sh (d + 3) 254 [mR 124, mI ((eA E i).1 : Int)] σ1 = some (some (mI 0), σ1) := a1
      by_cases q2 : (plS c P fr c.length).testBit (eA E i).2 = true
      · rw [yes (by rw [q2]; simp)] at ih
        rw [q2] at a2
        replace a2 : run sh (d + 3) 254 [mR 124, mI ((eA E i).2 : Int)] σ1 = some (some (mI 1), σ1) := a2
        clear yes
        by_cases q3 : cs < ls
        · rw [if_pos q3] at ih
          simp (disch := first | assumption | omega | (simp (disch := omega) only [wN, w0, w1]; omega)) only [e256_0, e256_1, e256_2, e256_5, e256_6, e256_7, e256_9, e256_10, e256_13, e256_16, e256_17, e256_18, e256_21, e256_22, e256_23, e256_26, e256_29, e256_30, e256_31, e256_34, e256_35, e256_36, e256_39, e256_42, e256_45, e256_46, e256_47, e256_50, e256_52, e256_54, e256_55, e256_58, e256_59, e256_60, e256_61, e256_63, e256_66, e256_67, e256_70, e256_73, e256_74, kl_I, kl_R, kl_N, kl_L, oSm, oNn, Option.bind_some, wN, if_pos, if_neg, nS, tN, t0, w0, w1, w2, w3, w4, w5, wm1, upA_ne, upA_same, if_true, if_false, Bool.false_eq_true, hl, ra2, rl2, ra3, rl3, g1, g2, a1, a2, b1, e5]
          exact ih _ _ hp2
        · rw [if_neg q3] at ih
          simp (disch := first | assumption | omega | (simp (disch := omega) only [wN, w0, w1]; omega)) only [e256_0, e256_1, e256_2, e256_5, e256_6, e256_7, e256_9, e256_10, e256_13, e256_16, e256_17, e256_18, e256_21, e256_22, e256_23, e256_26, e256_29, e256_30, e256_31, e256_34, e256_35, e256_36, e256_39, e256_42, e256_45, e256_46, e256_47, e256_50, e256_52, e256_54, e256_55, e256_58, e256_59, e256_60, e256_61, e256_63, e256_66, e256_67, e256_70, e256_73, e256_74, kl_I, kl_R, kl_N, kl_L, oSm, oNn, Option.bind_some, wN, if_pos, if_neg, nS, tN, t0, w0, w1, w2, w3, w4, w5, wm1, upA_ne, upA_same, if_true, if_false, Bool.false_eq_true, hl, ra2, rl2, ra3, rl3, g1, g2, a1, a2, b1, e5]
          exact ih _ _ hp2
      · have q2' : (plS c P fr c.length).testBit (eA E i).2 = false := by simpa using q2
        rw [q1', q2', if_neg (by simp)] at ih
        rw [q2'] at a2
        replace a2 : run sh (d + 3) 254 [mR 124, mI ((eA E i).2 : Int)] σ1 = some (some (mI 0), σ1) := a2
        clear yes
        simp (disch := first | assumption | omega | (simp (disch := omega) only [wN, w0, w1]; omega)) only [e256_0, e256_1, e256_2, e256_5, e256_6, e256_7, e256_9, e256_10, e256_13, e256_16, e256_17, e256_18, e256_21, e256_22, e256_23, e256_26, e256_29, e256_30, e256_31, e256_34, e256_35, e256_36, e256_39, e256_42, e256_45, e256_46, e256_47, e256_50, e256_52, e256_54, e256_55, e256_58, e256_59, e256_60, e256_61, e256_63, e256_66, e256_67, e256_70, e256_73, e256_74, kl_I, kl_R, kl_N, kl_L, oSm, oNn, Option.bind_some, wN, if_pos, if_neg, nS, tN, t0, w0, w1, w2, w3, w4, w5, wm1, upA_ne, upA_same, if_true, if_false, Bool.false_eq_true, hl, ra2, rl2, ra3, rl3, g1, g2, a1, a2]
        exact ih _ _ hp) 0 (Nat.zero_le _)
  simp (disch := first | assumption | omega | (simp (disch := omega) only [wN, w0, w1]; omega)) only [e256_0, e256_1, e256_2, e256_5, e256_6, e256_7, e256_9, e256_10, e256_13, e256_16, e256_17, e256_18, e256_21, e256_22, e256_23, e256_26, e256_29, e256_30, e256_31, e256_34, e256_35, e256_36, e256_39, e256_42, e256_45, e256_46, e256_47, e256_50, e256_52, e256_54, e256_55, e256_58, e256_59, e256_60, e256_61, e256_63, e256_66, e256_67, e256_70, e256_73, e256_74, kl_I, kl_R, kl_N, kl_L, oSm, oNn, Option.bind_some, wN, if_pos, if_neg, nS, tN, t0, w0, w1, w2, w3, w4, w5, wm1, upA_ne, upA_same, if_true, if_false, Bool.false_eq_true, q256]
  exact L σ _ frW.rf
end NR

