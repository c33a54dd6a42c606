/-! ===== Router: all that can is done ===== -/
/-- one pass: what is done, wear, steps -/
def rrA (F : Nat → Nat → Nat) (c : List Gt) (A P : Nat → Nat) : Nat → Nat × (Nat → Nat) × List Sp → Nat × (Nat → Nat) × List Sp
  | 0, x => x
  | g + 1, x => if dbB F c A P (rrA F c A P g x).1 g = true then ((rrA F c A P g x).1 ||| 2 ^ g, (if 3 ≤ (gA c g).1 then (fun _ => 0) else (rrA F c A P g x).2.1), (rrA F c A P g x).2.2 ++ [(sgP P (gA c g), false)]) else rrA F c A P g x
theorem rrA_D (F : Nat → Nat → Nat) (c : List Gt) (A P : Nat → Nat) (x : Nat × (Nat → Nat) × List Sp) : ∀ g, (rrA F c A P g x).1 = daD F c A P x.1 g
  | 0 => rfl
  | g + 1 => by
    rw [rrA, daD, ← rrA_D F c A P x g]
    split <;> rfl
/-- how many bits below n stand in D -/
def pcD (D n : Nat) : Nat := cnt (fun i => D.testBit i) n
theorem cnt_congr {p q : Nat → Bool} : ∀ n, (∀ i, i < n → p i = q i) → cnt p n = cnt q n
  | 0, _ => rfl
  | n + 1, h => by rw [cnt, cnt, cnt_congr n (fun i hi => h i (by omega)), h n (by omega)]
theorem pcD_or {D g : Nat} (hb : D.testBit g = false) : ∀ n, g < n → pcD (D ||| 2 ^ g) n = pcD D n + 1
  | 0, h => by omega
  | n + 1, h => by
    unfold pcD
    rw [cnt, cnt]
    by_cases e : g = n
    · subst e
      rw [Nat.testBit_or, Nat.testBit_two_pow_self, hb]
      have : cnt (fun i => (D ||| 2 ^ g).testBit i) g = cnt (fun i => D.testBit i) g := cnt_congr g (fun i hi => by
        rw [Nat.testBit_or, Nat.testBit_two_pow]; simp; omega)
      rw [this]; simp
    · have ih := pcD_or hb n (by omega)
      unfold pcD at ih
      rw [ih, Nat.testBit_or, Nat.testBit_two_pow]
      simp [e]; omega
theorem pcD_le (D n : Nat) : pcD D n ≤ n := cnt_le _ n
theorem dbB_bit {F : Nat → Nat → Nat} {c : List Gt} {A P : Nat → Nat} {D g : Nat} (h : dbB F c A P D g = true) : D.testBit g = false := by
  unfold dbB opB at h
  revert h
  cases D.testBit g <;> simp
section ROB
variable {sh : Shp} {d o n m : Nat} {σ : Mem} {S : List Sp} {w : Nat → Nat} {c : List Gt} {E : List Ed} {A P : Nat → Nat} {D t : Nat}
/-- a router at work -/
def HRo (σ : Mem) (o n m : Nat) (c : List Gt) (E : List Ed) (A P : Nat → Nat) (x : Nat × (Nat → Nat) × List Sp) : Prop := HKs σ (o + 1) c m E A ∧ HKm σ (o + 1) n P x.1 ∧ HWe σ o x.2.1 ∧ HSt σ o x.2.2
theorem Z88 {x : Nat × (Nat → Nat) × List Sp} (hs : roS sh o) (hR : HRo σ o n m c E A P x) (hk : okK n m c E) (hP : okP n m P) (hD : x.1 < 2 ^ c.length) (ht : t ≤ 40) (hS : x.2.2.length = pcD x.1 c.length + t) : End (run sh (d + 4) 88 [mR o] σ) (fun r σ' => r = none ∧ HRo σ' o n m c E A P (rrA (farE E) c A P c.length x) ∧ (rrA (farE E) c A P c.length x).2.2.length = pcD (rrA (farE E) c A P c.length x).1 c.length + t ∧ frI (o + 1) (o + 30) σ σ') := by
  obtain ⟨ho, r0, r1, r2, r3, hcr, hgl, k1, l1, k2, l2, hw2⟩ := id hs
  obtain ⟨hco, c0, c1, c2, c3, hcg, hcB, hcL, ck, cl, cw⟩ := id hcr
  obtain ⟨hn, hm, hE, h30, hv, hvE⟩ := id hk
  have hgo := hcg.1
  have L := for_P (c.length) (fun i => ∀ (σ1 : Mem), (HRo σ1 o n m c E A P (rrA (farE E) c A P i x) ∧ (rrA (farE E) c A P i x).2.2.length = pcD (rrA (farE E) c A P i x).1 c.length + t ∧ frI (o + 1) (o + 30) σ σ1) → End (ev sh (d + 4) 88 2 [some (mR (o)), some (mI ((i : Nat) : Int))] [] σ1) (fun r σ' => r = none ∧ HRo σ' o n m c E A P (rrA (farE E) c A P c.length x) ∧ (rrA (farE E) c A P c.length x).2.2.length = pcD (rrA (farE E) c A P c.length x).1 c.length + t ∧ frI (o + 1) (o + 30) σ σ')) (by
    intro σ1  hp
    replace hp : HRo σ1 o n m c E A P (rrA (farE E) c A P (c.length) x) ∧ (rrA (farE E) c A P (c.length) x).2.2.length = pcD (rrA (farE E) c A P (c.length) x).1 c.length + t ∧ frI (o + 1) (o + 30) σ σ1 := hp
    show End (ev sh (d + 4) 88 2 [some (mR (o)), some (mI (((c.length) : Nat) : Int))] [] σ1) (fun r σ' => r = none ∧ HRo σ' o n m c E A P (rrA (farE E) c A P c.length x) ∧ (rrA (farE E) c A P c.length x).2.2.length = pcD (rrA (farE E) c A P c.length x).1 c.length + t ∧ frI (o + 1) (o + 30) σ σ')
    have hl := hp.1.1.1.1
    rw [e88_2]
    simp (disch := first | assumption | omega | (simp (disch := omega) only [wN, w0, w1]; omega)) only [e88_0, e88_1, e88_3, e88_4, e88_7, e88_10, e88_13, e88_16, e88_17, e88_20, e88_21, e88_24, e88_27, e88_28, e88_29, e88_32, e88_35, e88_38, kl_I, kl_R, kl_N, kl_L, oSm, oNn, Option.bind_some, wN, if_pos, if_neg, nS, tN, t0, w0, w1, w2, w3, w4, w5, wm1, upA_ne, upA_same, if_true, if_false, Bool.false_eq_true, r0, c0, hl]
    exact End.of rfl ⟨rfl, hp⟩) (fun i hi ih => by
    replace ih : ∀ (σ1 : Mem), (HRo σ1 o n m c E A P (rrA (farE E) c A P (i + 1) x) ∧ (rrA (farE E) c A P (i + 1) x).2.2.length = pcD (rrA (farE E) c A P (i + 1) x).1 c.length + t ∧ frI (o + 1) (o + 30) σ σ1) → End (ev sh (d + 4) 88 2 [some (mR (o)), some (mI (((i + 1) : Nat) : Int))] [] σ1) (fun r σ' => r = none ∧ HRo σ' o n m c E A P (rrA (farE E) c A P c.length x) ∧ (rrA (farE E) c A P c.length x).2.2.length = pcD (rrA (farE E) c A P c.length x).1 c.length + t ∧ frI (o + 1) (o + 30) σ σ') := ih
    intro σ1  hp
    replace hp : HRo σ1 o n m c E A P (rrA (farE E) c A P i x) ∧ (rrA (farE E) c A P i x).2.2.length = pcD (rrA (farE E) c A P i x).1 c.length + t ∧ frI (o + 1) (o + 30) σ σ1 := hp
    show End (ev sh (d + 4) 88 2 [some (mR (o)), some (mI ((i : Nat) : Int))] [] σ1) (fun r σ' => r = none ∧ HRo σ' o n m c E A P (rrA (farE E) c A P c.length x) ∧ (rrA (farE E) c A P c.length x).2.2.length = pcD (rrA (farE E) c A P c.length x).1 c.length + t ∧ frI (o + 1) (o + 30) σ σ')
    have hl := hp.1.1.1.1
    have hlt := daD_lt (F := farE E) (c := c) (A := A) (P := P) hD i (by omega)
    rw [← rrA_D] at hlt
    have e31 := U31 (d := d) hcr hp.1.1 hp.1.2.1 hk hP hlt hi
    rw [e88_2]
    by_cases h : dbB (farE E) c A P (rrA (farE E) c A P i x).1 i = true
    · rw [if_pos h] at e31
      have f0 : frI (o + 1) (o + 1) σ1 (upA σ1.1 (o + 1) (up1 (σ1.1 (o + 1)) 4 (((rrA (farE E) c A P i x).1 ||| 2 ^ i : Nat) : Int)), σ1.2) := frI.up (by omega)
      have hb := dbB_bit h
      have hpc := pcD_or hb c.length hi
      have hpl := pcD_le ((rrA (farE E) c A P i x).1 ||| 2 ^ i) c.length
      have hlen := hp.2.1
      obtain ⟨r, σ2, f1, rfl, f3, f4, f5⟩ := Z89 (d := d) hs (hp.1.1.fr f0 (by omega)) (hp.1.2.1.don (D' := (rrA (farE E) c A P i x).1 ||| 2 ^ i)) hk hP hi (hp.1.2.2.2.fr f0 (by omega)) (by omega) (hp.1.2.2.1.fr f0 (by omega))
      simp (disch := first | assumption | omega | (simp (disch := omega) only [wN, w0, w1]; omega)) only [e88_0, e88_1, e88_3, e88_4, e88_7, e88_10, e88_13, e88_16, e88_17, e88_20, e88_21, e88_24, e88_27, e88_28, e88_29, e88_32, e88_35, e88_38, kl_I, kl_R, kl_N, kl_L, oSm, oNn, Option.bind_some, wN, if_pos, if_neg, nS, tN, t0, w0, w1, w2, w3, w4, w5, wm1, upA_ne, upA_same, if_true, if_false, Bool.false_eq_true, r0, c0, hl, e31, f1]
      have er : rrA (farE E) c A P (i + 1) x = ((rrA (farE E) c A P i x).1 ||| 2 ^ i, (if 3 ≤ (gA c i).1 then (fun _ => 0) else (rrA (farE E) c A P i x).2.1), (rrA (farE E) c A P i x).2.2 ++ [(sgP P (gA c i), false)]) := by rw [rrA, if_pos h]
      refine ih _ ⟨?_, ?_, hp.2.2.tr ((f0.w (by omega) (by omega)).tr (f5.w (by omega) (by omega)))⟩
      · rw [er]
        have hM1 : HKm (upA σ1.1 (o + 1) (up1 (σ1.1 (o + 1)) 4 (((rrA (farE E) c A P i x).1 ||| 2 ^ i : Nat) : Int)), σ1.2) (o + 1) n P ((rrA (farE E) c A P i x).1 ||| 2 ^ i) := hp.1.2.1.don
        exact ⟨(hp.1.1.fr f0 (by omega)).fr f5 (by omega), ⟨hM1.1.fr f5 (by omega), by rw [f5.1 _ (by omega)]; exact hM1.2⟩, f4, f3⟩
      · rw [er]
        simp only [List.length_append, List.length_cons, List.length_nil]
        omega
    · rw [if_neg h] at e31
      simp (disch := first | assumption | omega | (simp (disch := omega) only [wN, w0, w1]; omega)) only [e88_0, e88_1, e88_3, e88_4, e88_7, e88_10, e88_13, e88_16, e88_17, e88_20, e88_21, e88_24, e88_27, e88_28, e88_29, e88_32, e88_35, e88_38, kl_I, kl_R, kl_N, kl_L, oSm, oNn, Option.bind_some, wN, if_pos, if_neg, nS, tN, t0, w0, w1, w2, w3, w4, w5, wm1, upA_ne, upA_same, if_true, if_false, Bool.false_eq_true, r0, c0, hl, e31]
      refine ih _ ?_
      rw [rrA, if_neg h]
      exact hp) 0 (Nat.zero_le _)
  simp (disch := first | assumption | omega | (simp (disch := omega) only [wN, w0, w1]; omega)) only [e88_0, e88_1, e88_3, e88_4, e88_7, e88_10, e88_13, e88_16, e88_17, e88_20, e88_21, e88_24, e88_27, e88_28, e88_29, e88_32, e88_35, e88_38, kl_I, kl_R, kl_N, kl_L, oSm, oNn, Option.bind_some, wN, if_pos, if_neg, nS, tN, t0, w0, w1, w2, w3, w4, w5, wm1, upA_ne, upA_same, if_true, if_false, Bool.false_eq_true, q88]
  exact L σ ⟨hR, hS, frI.rf⟩
end ROB

