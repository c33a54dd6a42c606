/-! ===== Router: the route ===== -/
theorem pcD_30 {D n : Nat} (h : D < 2 ^ n) : ∀ k, pcD D (n + k) = pcD D n
  | 0 => rfl
  | k + 1 => by
    rw [← Nat.add_assoc]
    show cnt _ (n + k) + _ = _
    have ih := pcD_30 h k
    unfold pcD at ih ⊢
    have e : D.testBit (n + k) = false := Nat.testBit_lt_two_pow (Nat.lt_of_lt_of_le h (Nat.pow_le_pow_right (by omega) (by omega)))
    rw [ih]
    simp only [e]
    rfl
/-- where the route stands: lines, done, wear, steps, swaps -/
abbrev RS : Type := (Nat → Nat) × (Nat × (Nat → Nat) × List Sp) × Nat
def ddR (F : Nat → Nat → Nat) (c : List Gt) (A : Nat → Nat) (x : RS) : RS := (x.1, rrA F c A x.1 c.length x.2.1, x.2.2)
def frR (c : List Gt) (A : Nat → Nat) (x : RS) : Nat := bts (opB A x.2.1.1) c.length
def nxR (c : List Gt) (A : Nat → Nat) (look : Nat) (x : RS) : Nat := (nxS c (frR c A x ||| x.2.1.1) look c.length).1
/-- the cheapest edge, -1: none -/
def chR (F : Nat → Nat → Nat) (c : List Gt) (E : List Ed) (A : Nat → Nat) (look : Nat) (x : RS) : Int :=
  (beS F c E x.1 x.2.1.2.1 (frR c A x) (nxR c A look x) (plS c x.1 (frR c A x) c.length) E.length).2
def swR (E : List Ed) (e : Nat) (x : RS) : RS :=
  (swP (eA E e).1 (eA E e).2 x.1, (x.2.1.1, upw (upw x.2.1.2.1 (eA E e).1) (eA E e).2, x.2.1.2.2 ++ [((5, (eA E e).1, ((eA E e).2 : Int)), true)]), x.2.2 + 1)
/-- the route, t turns left -/
def ruR (F : Nat → Nat → Nat) (c : List Gt) (E : List Ed) (A : Nat → Nat) (look : Nat) : Nat → RS → RS × Bool
  | 0, x => (x, false)
  | t + 1, x => if (ddR F c A x).2.1.1 = 2 ^ c.length - 1 then (ddR F c A x, true) else if chR F c E A look (ddR F c A x) = -1 ∨ x.2.2 = 40 then (ddR F c A x, false) else ruR F c E A look t (swR E (chR F c E A look (ddR F c A x)).toNat (ddR F c A x))
theorem beS_r {F : Nat → Nat → Nat} {c : List Gt} {E : List Ed} {P w : Nat → Nat} {fr nx H : Nat} : ∀ e, ((beS F c E P w fr nx H e).2 = -1 ∨ ∃ k : Nat, k < e ∧ (beS F c E P w fr nx H e).2 = (k : Int)) ∧ (beS F c E P w fr nx H e).1 ≤ 1000000000
  | 0 => ⟨Or.inl rfl, Nat.le_refl _⟩
  | e + 1 => by
    have ⟨h1, h2⟩ := beS_r (F := F) (c := c) (E := E) (P := P) (w := w) (fr := fr) (nx := nx) (H := H) e
    rw [beS]
    split
    · rename_i h
      exact ⟨Or.inr ⟨e, by omega, rfl⟩, by simp only; omega⟩
    · refine ⟨?_, h2⟩
      rcases h1 with h1 | ⟨k, h3, h4⟩
      · exact Or.inl h1
      · exact Or.inr ⟨k, by omega, h4⟩
/-- once all that can is done, what is open is of two lines -/
theorem op_two {F : Nat → Nat → Nat} {c : List Gt} {A P : Nat → Nat} {D : Nat} (hA : ∀ g, g < c.length → A g < 2 ^ g) : ∀ n, n ≤ c.length → ∀ g, g < n → opB A (daD F c A P D n) g = true → 3 ≤ (gA c g).1 ∧ fiB F P (gA c g) = false
  | 0, _, g, hg, _ => by omega
  | n + 1, hn, g, hg, h => by
    have keep : ∀ D', opB A (D' ||| 2 ^ n) g = true → g < n → opB A D' g = true := by
      intro D' h1 hgn
      have hAg := hA g (by omega)
      have bn : (A g).testBit n = false := Nat.testBit_lt_two_pow (Nat.lt_of_lt_of_le hAg (Nat.pow_le_pow_right (by omega) (by omega)))
      unfold opB sbB at h1 ⊢
      rw [Bool.and_eq_true, decide_eq_true_eq] at h1 ⊢
      obtain ⟨h2, h3⟩ := h1
      rw [Nat.testBit_or, Nat.testBit_two_pow] at h2
      refine ⟨?_, ?_⟩
      · revert h2; cases D'.testBit g <;> simp
      · apply Nat.eq_of_testBit_eq
        intro j
        have h4 : (A g &&& (D' ||| 2 ^ n)).testBit j = (A g).testBit j := by rw [h3]
        rw [Nat.testBit_and, Nat.testBit_or, Nat.testBit_two_pow] at h4
        rw [Nat.testBit_and]
        by_cases e : n = j
        · subst e; rw [bn]; rfl
        · simp [e] at h4 ⊢; exact h4
    rw [daD] at h
    by_cases hd : dbB F c A P (daD F c A P D n) n = true
    · rw [if_pos hd] at h
      by_cases e : g = n
      · subst e
        exfalso
        unfold opB at h
        rw [Nat.testBit_or, Nat.testBit_two_pow_self] at h
        simp at h
      · exact op_two hA n (by omega) g (by omega) (keep _ h (by omega))
    · rw [if_neg hd] at h
      by_cases e : g = n
      · subst e
        unfold dbB at hd
        rw [h] at hd
        have hf : fiB F P (gA c g) = false := by simpa using hd
        refine ⟨?_, hf⟩
        unfold fiB at hf
        by_cases h3 : 3 ≤ (gA c g).1
        · exact h3
        · simp [h3] at hf
      · exact op_two hA n (by omega) g (by omega) h
section ROD
variable {sh : Shp} {d o n m : Nat} {σ : Mem} {c : List Gt} {E : List Ed} {A : Nat → Nat} {look t : Nat} {x : RS}
def HRx (σ : Mem) (o n m : Nat) (c : List Gt) (E : List Ed) (A : Nat → Nat) (x : RS) : Prop := HRo σ o n m c E A x.1 x.2.1 ∧ σ.1 o 4 = (x.2.2 : Int)
/-- what holds of the route's state -/
def okR (n m : Nat) (c : List Gt) (x : RS) : Prop := okP n m x.1 ∧ x.2.1.1 < 2 ^ c.length ∧ x.2.1.2.2.length = pcD x.2.1.1 c.length + x.2.2 ∧ x.2.2 ≤ 40 ∧ (∀ p, p < 5 → x.2.1.2.1 p ≤ 40) ∧ (∀ p, p < 5 → x.2.1.2.1 p ≤ x.2.2)
theorem bts_tb {p : Nat → Bool} {n i : Nat} (h : (bts p n).testBit i = true) : i < n ∧ p i = true := by
  rw [bts_bit] at h
  simpa using h
set_option maxHeartbeats 1000000 in
theorem Z94 (hs : roS sh o) (hR : HRx σ o n m c E A x) (hk : okK n m c E) (hx : okR n m c x) (hlook : look ≤ 5) (h2 : ∀ i, i < c.length → opB A x.2.1.1 i = true → 3 ≤ (gA c i).1) : End (run sh (d + 4) 94 [mR o, mI (look : Int)] σ) (fun r σ' => r = some (mI (chR (farE E) c E A look x)) ∧ HRx σ' o n m c E A x ∧ frI (o + 19) (o + 20) σ σ') := by
  obtain ⟨ho, r0, r1, r2, r3, hcr, hgl, k1, l1, k2, l2, hw2⟩ := id hs
  obtain ⟨hco, c0, c1, c2, c3, hcg, hcB, hcL, ck, cl, cw⟩ := id hcr
  obtain ⟨hn, hm, hE, h30, hv, hvE⟩ := id hk
  obtain ⟨hP, hD, hSl, h40, hw40, -⟩ := id hx
  have hbo := hcB.1
  have p30 : 2 ^ c.length ≤ 2 ^ 30 := Nat.pow_le_pow_right (by omega) h30
  have hfr : frR c A x < 2 ^ c.length := bts_lt _ _
  have hnx := nxS_lt c (frR c A x ||| x.2.1.1) look c.length
  have hfr2 : ∀ i, i < c.length → (frR c A x).testBit i = true → 3 ≤ (gA c i).1 := fun i hi hb => h2 i hi (bts_tb hb).2
  have hnx2 : ∀ i, i < c.length → (nxR c A look x).testBit i = true → 3 ≤ (gA c i).1 := fun i hi hb => (nxS_two _ _ _ _ _ hb).2.1
  have hnxl : nxR c A look x < 2 ^ c.length := hnx.1
  have hpl := plS_lt (S := frR c A x) hP hm hv c.length (Nat.le_refl _) hfr2
  obtain ⟨⟨hK, hM, hWe, hSt⟩, hnsw⟩ := id hR
  have e33 := U33 (d := d + 1) hcr hK hM hk hD
  have e95 := Z95 (d := d + 1) (T := frR c A x) (look := look) hs hK hM hk hD hfr hlook
  have e96 := Z96 (d := d + 1) (T := frR c A x) hs hK hM hk hP hfr hfr2
  have b1 := Q283 (sh := sh) (d := d + 2) (σ := σ) (x := nxR c A look x) (by omega)
  have b2 := Q283 (sh := sh) (d := d + 2) (σ := σ) (x := frR c A x) (by omega)
  have pl1 := pcD_le (nxR c A look x) 30
  have pl2 := pcD_le (frR c A x) 30
  have mx1 := mmx_nn (a := pcD (nxR c A look x) 30) (b := 1) (by omega) (by omega)
  rw [show ((1 : Nat) : Int) = 1 from rfl] at mx1
  have e33' : run sh (d + 3) 33 [mR (o + 1)] σ = some (some (mI (frR c A x : Int)), σ) := e33
  have e95' : run sh (d + 3) 95 [mR o, mI (frR c A x : Int), mI (look : Int)] σ = some (some (mI (nxR c A look x : Int)), σ) := e95
  have ml : (2 : Int) * ((max (pcD (nxR c A look x) 30) 1 : Nat) : Int) = ((2 * max (pcD (nxR c A look x) 30) 1 : Nat) : Int) := (Int.natCast_mul 2 _).symm
  have L := for_P (E.length) (fun e => ∀ (σ1 : Mem) (v11 v12 v13 : Option MV), (HRx σ1 o n m c E A x ∧ frI (o + 19) (o + 20) σ σ1) → End (ev sh (d + 4) 94 60 [some (mR (o)), some (mI ((look : Nat) : Int)), some (mR ((o + 1 + 8))), some (mI ((frR c A x : Nat) : Int)), some (mI ((nxR c A look x : Nat) : Int)), some (mI ((2 * max (pcD (nxR c A look x) 30) 1 : Nat) : Int)), some (mI ((pcD (frR c A x) 30 : Nat) : Int)), some (mI ((plS c x.1 (frR c A x) c.length : Nat) : Int)), some (mI (((beS (farE E) c E x.1 x.2.1.2.1 (frR c A x) (nxR c A look x) (plS c x.1 (frR c A x) c.length) e).1 : Nat) : Int)), some (mI ((beS (farE E) c E x.1 x.2.1.2.1 (frR c A x) (nxR c A look x) (plS c x.1 (frR c A x) c.length) e).2)), some (mI ((e : Nat) : Int)), v11, v12, v13] [] σ1) (fun r σ' => r = some (mI (chR (farE E) c E A look x)) ∧ HRx σ' o n m c E A x ∧ frI (o + 19) (o + 20) σ σ')) (by
    intro σ1 v11 v12 v13 hp
    replace hp : HRx σ1 o n m c E A x ∧ frI (o + 19) (o + 20) σ σ1 := hp
    show End (ev sh (d + 4) 94 60 [some (mR (o)), some (mI ((look : Nat) : Int)), some (mR ((o + 1 + 8))), some (mI ((frR c A x : Nat) : Int)), some (mI ((nxR c A look x : Nat) : Int)), some (mI ((2 * max (pcD (nxR c A look x) 30) 1 : Nat) : Int)), some (mI ((pcD (frR c A x) 30 : Nat) : Int)), some (mI ((plS c x.1 (frR c A x) c.length : Nat) : Int)), some (mI (((beS (farE E) c E x.1 x.2.1.2.1 (frR c A x) (nxR c A look x) (plS c x.1 (frR c A x) c.length) (E.length)).1 : Nat) : Int)), some (mI ((beS (farE E) c E x.1 x.2.1.2.1 (frR c A x) (nxR c A look x) (plS c x.1 (frR c A x) c.length) (E.length)).2)), some (mI (((E.length) : Nat) : Int)), v11, v12, v13] [] σ1) (fun r σ' => r = some (mI (chR (farE E) c E A look x)) ∧ HRx σ' o n m c E A x ∧ frI (o + 19) (o + 20) σ σ')
    have hl := hp.1.1.1.2.1.2.1
    rw [e94_60]
    simp (disch := first | assumption | omega | (simp (disch := omega) only [wN, w0, w1]; omega)) only [e94_0, e94_1, e94_4, e94_7, e94_8, e94_9, e94_12, e94_15, e94_16, e94_17, e94_18, e94_19, e94_22, e94_24, e94_25, e94_27, e94_30, e94_31, e94_34, e94_35, e94_37, e94_38, e94_41, e94_43, e94_44, e94_45, e94_48, e94_50, e94_52, e94_54, e94_55, e94_57, e94_58, e94_62, e94_63, e94_66, e94_69, e94_70, e94_72, e94_75, e94_77, e94_78, e94_80, e94_83, e94_85, e94_87, e94_89, e94_90, e94_91, e94_92, e94_95, e94_97, e94_99, e94_100, e94_101, e94_102, e94_105, e94_108, e94_109, e94_112, e94_114, e94_117, e94_118, e94_121, e94_122, e94_125, e94_127, e94_128, e94_129, e94_132, e94_134, e94_137, e94_139, e94_140, e94_141, e94_143, e94_144, e94_147, e94_149, e94_152, e94_154, e94_156, e94_157, e94_160, e94_162, e94_165, e94_166, e94_169, e94_171, e94_174, e94_177, e94_178, e94_179, e94_181, e94_183, e94_185, e94_188, e94_190, e94_192, e94_194, e94_196, e94_199, e94_202, e94_204, kl_I, kl_R, kl_N, kl_L, oSm, oNn, Option.bind_some, wN, if_pos, if_neg, nS, tN, t0, w0, w1, w2, w3, w4, w5, wm1, upA_ne, upA_same, if_true, if_false, Bool.false_eq_true, hl]
    exact End.of rfl ⟨rfl, hp⟩) (fun e hi ih => by
    replace ih : ∀ (σ1 : Mem) (v11 v12 v13 : Option MV), (HRx σ1 o n m c E A x ∧ frI (o + 19) (o + 20) σ σ1) → End (ev sh (d + 4) 94 60 [some (mR (o)), some (mI ((look : Nat) : Int)), some (mR ((o + 1 + 8))), some (mI ((frR c A x : Nat) : Int)), some (mI ((nxR c A look x : Nat) : Int)), some (mI ((2 * max (pcD (nxR c A look x) 30) 1 : Nat) : Int)), some (mI ((pcD (frR c A x) 30 : Nat) : Int)), some (mI ((plS c x.1 (frR c A x) c.length : Nat) : Int)), some (mI (((beS (farE E) c E x.1 x.2.1.2.1 (frR c A x) (nxR c A look x) (plS c x.1 (frR c A x) c.length) (e + 1)).1 : Nat) : Int)), some (mI ((beS (farE E) c E x.1 x.2.1.2.1 (frR c A x) (nxR c A look x) (plS c x.1 (frR c A x) c.length) (e + 1)).2)), some (mI (((e + 1) : Nat) : Int)), v11, v12, v13] [] σ1) (fun r σ' => r = some (mI (chR (farE E) c E A look x)) ∧ HRx σ' o n m c E A x ∧ frI (o + 19) (o + 20) σ σ') := ih
    intro σ1 v11 v12 v13 hp
    replace hp : HRx σ1 o n m c E A x ∧ frI (o + 19) (o + 20) σ σ1 := hp
    show End (ev sh (d + 4) 94 60 [some (mR (o)), some (mI ((look : Nat) : Int)), some (mR ((o + 1 + 8))), some (mI ((frR c A x : Nat) : Int)), some (mI ((nxR c A look x : Nat) : Int)), some (mI ((2 * max (pcD (nxR c A look x) 30) 1 : Nat) : Int)), some (mI ((pcD (frR c A x) 30 : Nat) : Int)), some (mI ((plS c x.1 (frR c A x) c.length : Nat) : Int)), some (mI (((beS (farE E) c E x.1 x.2.1.2.1 (frR c A x) (nxR c A look x) (plS c x.1 (frR c A x) c.length) e).1 : Nat) : Int)), some (mI ((beS (farE E) c E x.1 x.2.1.2.1 (frR c A x) (nxR c A look x) (plS c x.1 (frR c A x) c.length) e).2)), some (mI ((e : Nat) : Int)), v11, v12, v13] [] σ1) (fun r σ' => r = some (mI (chR (farE E) c E A look x)) ∧ HRx σ' o n m c E A x ∧ frI (o + 19) (o + 20) σ σ')
    have hl := hp.1.1.1.2.1.2.1
    obtain ⟨⟨hK, hM, hWe, hSt⟩, hnsw⟩ := id hp.1
    have h5 := hvE.at hi
    have n3 := N3 (d := d + 1) hcB hK.2.1 hE hi
    have n4' := N4 (d := d + 1) hcB hK.2.1 hE hi
    have xb1 := xbit (a := plS c x.1 (frR c A x) c.length) (k := (eA E e).1) (by omega) (by omega)
    have xb2 := xbit (a := plS c x.1 (frR c A x) c.length) (k := (eA E e).2) (by omega) (by omega)
    have hbr := (beS_r (F := farE E) (c := c) (E := E) (P := x.1) (w := x.2.1.2.1) (fr := frR c A x) (nx := nxR c A look x) (H := plS c x.1 (frR c A x) c.length) e).2
    have skip : hdB E (plS c x.1 (frR c A x) c.length) e = false → beS (farE E) c E x.1 x.2.1.2.1 (frR c A x) (nxR c A look x) (plS c x.1 (frR c A x) c.length) (e + 1) = beS (farE E) c E x.1 x.2.1.2.1 (frR c A x) (nxR c A look x) (plS c x.1 (frR c A x) c.length) e := by
      intro h; rw [beS, if_neg (fun z => by rw [h] at z; cases z.1)]
    have take : ∀ v13, hdB E (plS c x.1 (frR c A x) c.length) e = true → End (ev sh (d + 4) 94 108 [some (mR o), some (mI (look : Int)), some (mR (o + 1 + 8)), some (mI (frR c A x : Int)), some (mI (nxR c A look x : Int)), some (mI ((2 * max (pcD (nxR c A look x) 30) 1 : Nat) : Int)), some (mI (pcD (frR c A x) 30 : Int)), some (mI (plS c x.1 (frR c A x) c.length : Int)), some (mI ((beS (farE E) c E x.1 x.2.1.2.1 (frR c A x) (nxR c A look x) (plS c x.1 (frR c A x) c.length) e).1 : Int)), some (mI (beS (farE E) c E x.1 x.2.1.2.1 (frR c A x) (nxR c A look x) (plS c x.1 (frR c A x) c.length) e).2), some (mI (e : Int)), some (mI ((eA E e).1 : Int)), some (mI ((eA E e).2 : Int)), v13] [] σ1) (fun r σ' => r = some (mI (chR (farE E) c E A look x)) ∧ HRx σ' o n m c E A x ∧ frI (o + 19) (o + 20) σ σ') := by
      intro v13 hhd
      have hE5 : (eA E e).1 < m ∧ (eA E e).2 < m := ⟨by omega, by omega⟩
      obtain ⟨ra, σ2, a1, rfl, a3, a4, a5⟩ := U36 (d := d) hcr hK hM hk hP hi
      have hP2 := hP.sw hE5.1 hE5.2
      have f1 := U34 (d := d) (S := frR c A x) hcr a3 a4 hk hP2 hfr hfr2
      have f2 := U34 (d := d) (S := nxR c A look x) hcr a3 a4 hk hP2 hnxl hnx2
      obtain ⟨rb, σ3, b1', rfl, b3, b4, b5⟩ := U36 (d := d) hcr a3 a4 hk hP2 hi
      rw [swP_swP (show (eA E e).1 ≠ (eA E e).2 by omega)] at b4
      have hWe3 : HWe σ3 o x.2.1.2.1 := (hWe.fr a5 (by omega)).fr b5 (by omega)
      have hSt3 : HSt σ3 o x.2.1.2.2 := (hSt.fr a5 (by omega)).fr b5 (by omega)
      have hn3 : σ3.1 o 4 = (x.2.2 : Int) := by rw [b5.1 _ (by omega), a5.1 _ (by omega)]; exact hnsw
      have z1 := Z93 (d := d + 3) (p := (eA E e).1) hs hWe3 (by omega)
      have z2 := Z93 (d := d + 3) (p := (eA E e).2) hs hWe3 (by omega)
      have hw1 := hw40 (eA E e).1 (by omega)
      have hw2' := hw40 (eA E e).2 (by omega)
      have mx2 := mmx_nn (a := x.2.1.2.1 (eA E e).1) (b := x.2.1.2.1 (eA E e).2) (by omega) (by omega)
      have hF9 : ∀ p, p < m → ∀ q, q < m → farE E p q ≤ 99 := fun p hp q hq => hK.2.2.1.le hm hp hq
      have g1 := faS_le (S := frR c A x) hF9 hP2 hm hv hfr2 c.length (Nat.le_refl _)
      have g2 := faS_le (S := nxR c A look x) hF9 hP2 hm hv hnx2 c.length (Nat.le_refl _)
      have g3 : faS (farE E) c (swP (eA E e).1 (eA E e).2 x.1) (frR c A x) c.length * (2 * max (pcD (nxR c A look x) 30) 1) ≤ 2970 * 60 := Nat.mul_le_mul (by omega) (by omega)
      have g4 : faS (farE E) c (swP (eA E e).1 (eA E e).2 x.1) (nxR c A look x) c.length * pcD (frR c A x) 30 ≤ 2970 * 30 := Nat.mul_le_mul (by omega) (by omega)
      have g5 : csS (farE E) c E x.1 x.2.1.2.1 (frR c A x) (nxR c A look x) e ≤ 267300 * 50 := Nat.mul_le_mul (by omega) (by omega)
      have n10 : (10 : Int) + ((max (x.2.1.2.1 (eA E e).1) (x.2.1.2.1 (eA E e).2) : Nat) : Int) = ((10 + max (x.2.1.2.1 (eA E e).1) (x.2.1.2.1 (eA E e).2) : Nat) : Int) := rfl
      have ecs : (faS (farE E) c (swP (eA E e).1 (eA E e).2 x.1) (frR c A x) c.length * (2 * max (pcD (nxR c A look x) 30) 1) + faS (farE E) c (swP (eA E e).1 (eA E e).2 x.1) (nxR c A look x) c.length * pcD (frR c A x) 30) * (10 + max (x.2.1.2.1 (eA E e).1) (x.2.1.2.1 (eA E e).2)) = csS (farE E) c E x.1 x.2.1.2.1 (frR c A x) (nxR c A look x) e := rfl
      have hRx3 : HRx σ3 o n m c E A x := ⟨⟨b3, b4, hWe3, hSt3⟩, hn3⟩
      have hf3 : frI (o + 19) (o + 20) σ σ3 := hp.2.tr (a5.tr b5)
      have wl3 : wi ((beS (farE E) c E x.1 x.2.1.2.1 (frR c A x) (nxR c A look x) (plS c x.1 (frR c A x) c.length) e).1 : Int) = ((beS (farE E) c E x.1 x.2.1.2.1 (frR c A x) (nxR c A look x) (plS c x.1 (frR c A x) c.length) e).1 : Int) := wN (by omega)
      clear g1 g2 g3 g4 n3 n4' xb1 xb2 e33 e95 e96 b1 b2 e33' e95' skip
      by_cases hlt : csS (farE E) c E x.1 x.2.1.2.1 (frR c A x) (nxR c A look x) e < (beS (farE E) c E x.1 x.2.1.2.1 (frR c A x) (nxR c A look x) (plS c x.1 (frR c A x) c.length) e).1
      · have eb : beS (farE E) c E x.1 x.2.1.2.1 (frR c A x) (nxR c A look x) (plS c x.1 (frR c A x) c.length) (e + 1) = (csS (farE E) c E x.1 x.2.1.2.1 (frR c A x) (nxR c A look x) e, (e : Int)) := by rw [beS, if_pos ⟨hhd, hlt⟩]
        rw [eb] at ih
        simp (disch := first | assumption | omega | (simp (disch := omega) only [wN, w0, w1]; omega)) only [e94_0, e94_1, e94_4, e94_7, e94_8, e94_9, e94_12, e94_15, e94_16, e94_17, e94_18, e94_19, e94_22, e94_24, e94_25, e94_27, e94_30, e94_31, e94_34, e94_35, e94_37, e94_38, e94_41, e94_43, e94_44, e94_45, e94_48, e94_50, e94_52, e94_54, e94_55, e94_57, e94_58, e94_62, e94_63, e94_66, e94_69, e94_70, e94_72, e94_75, e94_77, e94_78, e94_80, e94_83, e94_85, e94_87, e94_89, e94_90, e94_91, e94_92, e94_95, e94_97, e94_99, e94_100, e94_101, e94_102, e94_105, e94_108, e94_109, e94_112, e94_114, e94_117, e94_118, e94_121, e94_122, e94_125, e94_127, e94_128, e94_129, e94_132, e94_134, e94_137, e94_139, e94_140, e94_141, e94_143, e94_144, e94_147, e94_149, e94_152, e94_154, e94_156, e94_157, e94_160, e94_162, e94_165, e94_166, e94_169, e94_171, e94_174, e94_177, e94_178, e94_179, e94_181, e94_183, e94_185, e94_188, e94_190, e94_192, e94_194, e94_196, e94_199, e94_202, e94_204, kl_I, kl_R, kl_N, kl_L, oSm, oNn, Option.bind_some, wN, if_pos, if_neg, nS, tN, t0, w0, w1, w2, w3, w4, w5, wm1, upA_ne, upA_same, if_true, if_false, Bool.false_eq_true, r0, r3, a1, f1, f2, b1', z1, z2, mx2, n10, wl3, ← Int.natCast_mul, ← Int.natCast_add, ecs]
        exact ih _ _ _ _ ⟨hRx3, hf3⟩
      · have eb : beS (farE E) c E x.1 x.2.1.2.1 (frR c A x) (nxR c A look x) (plS c x.1 (frR c A x) c.length) (e + 1) = beS (farE E) c E x.1 x.2.1.2.1 (frR c A x) (nxR c A look x) (plS c x.1 (frR c A x) c.length) e := by rw [beS, if_neg (fun z => hlt z.2)]
        rw [eb] at ih
        simp (disch := first | assumption | omega | (simp (disch := omega) only [wN, w0, w1]; omega)) only [e94_0, e94_1, e94_4, e94_7, e94_8, e94_9, e94_12, e94_15, e94_16, e94_17, e94_18, e94_19, e94_22, e94_24, e94_25, e94_27, e94_30, e94_31, e94_34, e94_35, e94_37, e94_38, e94_41, e94_43, e94_44, e94_45, e94_48, e94_50, e94_52, e94_54, e94_55, e94_57, e94_58, e94_62, e94_63, e94_66, e94_69, e94_70, e94_72, e94_75, e94_77, e94_78, e94_80, e94_83, e94_85, e94_87, e94_89, e94_90, e94_91, e94_92, e94_95, e94_97, e94_99, e94_100, e94_101, e94_102, e94_105, e94_108, e94_109, e94_112, e94_114, e94_117, e94_118, e94_121, e94_122, e94_125, e94_127, e94_128, e94_129, e94_132, e94_134, e94_137, e94_139, e94_140, e94_141, e94_143, e94_144, e94_147, e94_149, e94_152, e94_154, e94_156, e94_157, e94_160, e94_162, e94_165, e94_166, e94_169, e94_171, e94_174, e94_177, e94_178, e94_179, e94_181, e94_183, e94_185, e94_188, e94_190, e94_192, e94_194, e94_196, e94_199, e94_202, e94_204, kl_I, kl_R, kl_N, kl_L, oSm, oNn, Option.bind_some, wN, if_pos, if_neg, nS, tN, t0, w0, w1, w2, w3, w4, w5, wm1, upA_ne, upA_same, if_true, if_false, Bool.false_eq_true, r0, r3, a1, f1, f2, b1', z1, z2, mx2, n10, wl3, ← Int.natCast_mul, ← Int.natCast_add, ecs]
        exact ih _ _ _ _ ⟨hRx3, hf3⟩
    rw [e94_60]
    by_cases hb1 : (plS c x.1 (frR c A x) c.length).testBit (eA E e).1 = true
    · have T0 := take v13 (by simp [hdB, hb1])
      simp (disch := first | assumption | omega | (simp (disch := omega) only [wN, w0, w1]; omega)) only [e94_0, e94_1, e94_4, e94_7, e94_8, e94_9, e94_12, e94_15, e94_16, e94_17, e94_18, e94_19, e94_22, e94_24, e94_25, e94_27, e94_30, e94_31, e94_34, e94_35, e94_37, e94_38, e94_41, e94_43, e94_44, e94_45, e94_48, e94_50, e94_52, e94_54, e94_55, e94_57, e94_58, e94_62, e94_63, e94_66, e94_69, e94_70, e94_72, e94_75, e94_77, e94_78, e94_80, e94_83, e94_85, e94_87, e94_89, e94_90, e94_91, e94_92, e94_95, e94_97, e94_99, e94_100, e94_101, e94_102, e94_105, e94_109, e94_112, e94_114, e94_117, e94_118, e94_121, e94_122, e94_125, e94_127, e94_128, e94_129, e94_132, e94_134, e94_137, e94_139, e94_140, e94_141, e94_143, e94_144, e94_147, e94_149, e94_152, e94_154, e94_156, e94_157, e94_160, e94_162, e94_165, e94_166, e94_169, e94_171, e94_174, e94_177, e94_178, e94_179, e94_181, e94_183, e94_185, e94_188, e94_190, e94_192, e94_194, e94_196, e94_199, e94_202, e94_204, kl_I, kl_R, kl_N, kl_L, oSm, oNn, Option.bind_some, wN, if_pos, if_neg, nS, tN, t0, w0, w1, w2, w3, w4, w5, wm1, upA_ne, upA_same, if_true, if_false, Bool.false_eq_true, hl, n3, n4', xb1, hb1]
      exact T0
    · by_cases hb2 : (plS c x.1 (frR c A x) c.length).testBit (eA E e).2 = true
      · have T0 := take v13 (by simp [hdB, hb2])
        simp (disch := first | assumption | omega | (simp (disch := omega) only [wN, w0, w1]; omega)) only [e94_0, e94_1, e94_4, e94_7, e94_8, e94_9, e94_12, e94_15, e94_16, e94_17, e94_18, e94_19, e94_22, e94_24, e94_25, e94_27, e94_30, e94_31, e94_34, e94_35, e94_37, e94_38, e94_41, e94_43, e94_44, e94_45, e94_48, e94_50, e94_52, e94_54, e94_55, e94_57, e94_58, e94_62, e94_63, e94_66, e94_69, e94_70, e94_72, e94_75, e94_77, e94_78, e94_80, e94_83, e94_85, e94_87, e94_89, e94_90, e94_91, e94_92, e94_95, e94_97, e94_99, e94_100, e94_101, e94_102, e94_105, e94_109, e94_112, e94_114, e94_117, e94_118, e94_121, e94_122, e94_125, e94_127, e94_128, e94_129, e94_132, e94_134, e94_137, e94_139, e94_140, e94_141, e94_143, e94_144, e94_147, e94_149, e94_152, e94_154, e94_156, e94_157, e94_160, e94_162, e94_165, e94_166, e94_169, e94_171, e94_174, e94_177, e94_178, e94_179, e94_181, e94_183, e94_185, e94_188, e94_190, e94_192, e94_194, e94_196, e94_199, e94_202, e94_204, kl_I, kl_R, kl_N, kl_L, oSm, oNn, Option.bind_some, wN, if_pos, if_neg, nS, tN, t0, w0, w1, w2, w3, w4, w5, wm1, upA_ne, upA_same, if_true, if_false, Bool.false_eq_true, hl, n3, n4', xb1, hb1, xb2, hb2]
        exact T0
      · simp (disch := first | assumption | omega | (simp (disch := omega) only [wN, w0, w1]; omega)) only [e94_0, e94_1, e94_4, e94_7, e94_8, e94_9, e94_12, e94_15, e94_16, e94_17, e94_18, e94_19, e94_22, e94_24, e94_25, e94_27, e94_30, e94_31, e94_34, e94_35, e94_37, e94_38, e94_41, e94_43, e94_44, e94_45, e94_48, e94_50, e94_52, e94_54, e94_55, e94_57, e94_58, e94_62, e94_63, e94_66, e94_69, e94_70, e94_72, e94_75, e94_77, e94_78, e94_80, e94_83, e94_85, e94_87, e94_89, e94_90, e94_91, e94_92, e94_95, e94_97, e94_99, e94_100, e94_101, e94_102, e94_105, e94_109, e94_112, e94_114, e94_117, e94_118, e94_121, e94_122, e94_125, e94_127, e94_128, e94_129, e94_132, e94_134, e94_137, e94_139, e94_140, e94_141, e94_143, e94_144, e94_147, e94_149, e94_152, e94_154, e94_156, e94_157, e94_160, e94_162, e94_165, e94_166, e94_169, e94_171, e94_174, e94_177, e94_178, e94_179, e94_181, e94_183, e94_185, e94_188, e94_190, e94_192, e94_194, e94_196, e94_199, e94_202, e94_204, kl_I, kl_R, kl_N, kl_L, oSm, oNn, Option.bind_some, wN, if_pos, if_neg, nS, tN, t0, w0, w1, w2, w3, w4, w5, wm1, upA_ne, upA_same, if_true, if_false, Bool.false_eq_true, hl, n3, n4', xb1, hb1, xb2, hb2]
        have sk := skip (by simp [hdB, hb1, hb2])
        rw [sk] at ih
        exact ih _ _ _ _ hp) 0 (Nat.zero_le _)
  simp (disch := first | assumption | omega | (simp (disch := omega) only [wN, w0, w1]; omega)) only [e94_0, e94_1, e94_4, e94_7, e94_8, e94_9, e94_12, e94_15, e94_16, e94_17, e94_18, e94_19, e94_22, e94_24, e94_25, e94_27, e94_30, e94_31, e94_34, e94_35, e94_37, e94_38, e94_41, e94_43, e94_44, e94_45, e94_48, e94_50, e94_52, e94_54, e94_55, e94_57, e94_58, e94_62, e94_63, e94_66, e94_69, e94_70, e94_72, e94_75, e94_77, e94_78, e94_80, e94_83, e94_85, e94_87, e94_89, e94_90, e94_91, e94_92, e94_95, e94_97, e94_99, e94_100, e94_101, e94_102, e94_105, e94_108, e94_109, e94_112, e94_114, e94_117, e94_118, e94_121, e94_122, e94_125, e94_127, e94_128, e94_129, e94_132, e94_134, e94_137, e94_139, e94_140, e94_141, e94_143, e94_144, e94_147, e94_149, e94_152, e94_154, e94_156, e94_157, e94_160, e94_162, e94_165, e94_166, e94_169, e94_171, e94_174, e94_177, e94_178, e94_179, e94_181, e94_183, e94_185, e94_188, e94_190, e94_192, e94_194, e94_196, e94_199, e94_202, e94_204, kl_I, kl_R, kl_N, kl_L, oSm, oNn, Option.bind_some, wN, if_pos, if_neg, nS, tN, t0, w0, w1, w2, w3, w4, w5, wm1, upA_ne, upA_same, if_true, if_false, Bool.false_eq_true, q94, r0, c1, e33', e95', e96, b1, b2, mx1, ml]
  exact L σ none none none ⟨hR, frI.rf⟩
end ROD

