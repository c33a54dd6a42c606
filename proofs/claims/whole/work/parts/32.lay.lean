/-! ===== Layout ===== -/
def lyS (sh : Shp) (l : Nat) : Prop := ob sh 5 2 l ∧ srf sh l 0 = l + 1 ∧ srf sh l 1 = l + 2 ∧ skd sh (l + 1) = 0 ∧ skd sh (l + 2) = 0 ∧ sln sh (l + 1) = 4 ∧ sln sh (l + 2) = 5 ∧ l + 2 < sh.1
/-- the line at place p, of n lines, or -1 -/
def laS (P : Nat → Nat) (p : Nat) : Nat → Int
  | 0 => -1
  | n + 1 => if P n = p then (n : Int) else laS P p n
/-- n lines on places below m, no two on one -/
def okP (n m : Nat) (P : Nat → Nat) : Prop := (∀ x, x < n → P x < m) ∧ ∀ x y, x < n → y < n → P x = P y → x = y
def HL (σ : Mem) (l n : Nat) (P : Nat → Nat) : Prop := (∀ x, x < n → σ.1 (l + 1) x = (P x : Int)) ∧ ∀ p, p < 5 → σ.1 (l + 2) p = laS P p n
theorem HL.fr {x y l n : Nat} {σ σ' : Mem} {P : Nat → Nat} (h : HL σ l n P) (hf : frI x y σ σ') (ho : l + 2 < x ∨ y < l) : HL σ' l n P := by
  refine ⟨fun z hz => ?_, fun p hp => ?_⟩
  · rw [hf.1 _ (by omega)]; exact h.1 z hz
  · rw [hf.1 _ (by omega)]; exact h.2 p hp
theorem laS_cases (P : Nat → Nat) (p : Nat) : ∀ n, (laS P p n = -1 ∧ ∀ x, x < n → P x ≠ p) ∨ ∃ x : Nat, x < n ∧ laS P p n = (x : Int) ∧ P x = p
  | 0 => Or.inl ⟨rfl, fun x h => by omega⟩
  | n + 1 => by
    unfold laS
    by_cases h : P n = p
    · exact Or.inr ⟨n, by omega, by rw [if_pos h], h⟩
    · rw [if_neg h]
      rcases laS_cases P p n with ⟨h1, h2⟩ | ⟨x, h1, h2, h3⟩
      · refine Or.inl ⟨h1, fun x hx => ?_⟩
        by_cases e : x = n
        · subst e; exact h
        · exact h2 x (by omega)
      · exact Or.inr ⟨x, by omega, h2, h3⟩
theorem laS_of {P : Nat → Nat} {n m x : Nat} (h : okP n m P) (hx : x < n) : laS P (P x) n = (x : Int) := by
  rcases laS_cases P (P x) n with ⟨h1, h2⟩ | ⟨y, h1, h2, h3⟩
  · exact absurd rfl (h2 x hx)
  · rw [h2, h.2 y x h1 hx h3]
/-- what stands at p and at q exchanged -/
def swP (p q : Nat) (P : Nat → Nat) : Nat → Nat := fun x => if P x = p then q else if P x = q then p else P x
theorem okP.sw {n m p q : Nat} {P : Nat → Nat} (h : okP n m P) (hp : p < m) (hq : q < m) : okP n m (swP p q P) := by
  refine ⟨fun x hx => ?_, fun x y hx hy e => ?_⟩
  · have := h.1 x hx
    unfold swP
    split
    · exact hq
    · split
      · exact hp
      · exact this
  · unfold swP at e
    have := h.2 x y hx hy
    repeat' split at e
    all_goals first | exact this (by omega)
theorem laS_sw {n m p q r : Nat} {P : Nat → Nat} (h : okP n m P) : laS (swP p q P) r n = if r = p then laS P q n else if r = q then laS P p n else laS P r n := by
  have key : ∀ s, (∀ x, x < n → (swP p q P x = r ↔ P x = s)) → laS (swP p q P) r n = laS P s n := by
    intro s hs
    rcases laS_cases P s n with ⟨h1, h2⟩ | ⟨y, h1, h2, h3⟩
    · rcases laS_cases (swP p q P) r n with ⟨h4, h5⟩ | ⟨z, h4, h5, h6⟩
      · rw [h1, h4]
      · exact absurd ((hs z h4).1 h6) (h2 z h4)
    · rcases laS_cases (swP p q P) r n with ⟨h4, h5⟩ | ⟨z, h4, h5, h6⟩
      · exact absurd ((hs y h1).2 h3) (h5 y h1)
      · rw [h2, h5, h.2 z y h4 h1 (((hs z h4).1 h6).trans h3.symm)]
  by_cases h1 : r = p
  · rw [if_pos h1]
    refine key q fun x hx => ?_
    unfold swP
    repeat' split
    all_goals omega
  · rw [if_neg h1]
    by_cases h2 : r = q
    · rw [if_pos h2]
      refine key p fun x hx => ?_
      unfold swP
      repeat' split
      all_goals omega
    · rw [if_neg h2]
      refine key r fun x hx => ?_
      unfold swP
      repeat' split
      all_goals omega
section LAY
variable {sh : Shp} {d l o b g cap n m : Nat} {σ : Mem} {P : Nat → Nat} {z : Int} {x p q j : Nat} {c : List Gt} {E : List Ed} {F : Nat → Nat → Nat}
theorem Y77 (hs : lyS sh l) (hL : HL σ l n P) (hn : n ≤ 4) (hx : x < n) : run sh (d + 1) 77 [mR l, mI (x : Int)] σ = some (some (mI (P x : Int)), σ) := by
  obtain ⟨ho, r0, r1, k1, k2, l1, l2, hw⟩ := id hs
  have h1 := hL.1 x hx
  simp (disch := first | assumption | omega | (simp (disch := omega) only [wN, w0, w1]; omega)) only [e77_0, e77_1, e77_4, e77_5, e77_6, e77_9, e77_10, e77_13, e77_14, e77_17, e77_18, e77_19, e77_22, e77_23, kl_I, kl_R, kl_N, kl_L, oSm, oNn, Option.bind_some, wN, if_pos, if_neg, nS, tN, t0, w0, w1, w2, w3, w4, w5, wm1, upA_ne, upA_same, if_true, if_false, q77, r0, l1, h1]
theorem Y77b (hs : lyS sh l) (hz : ¬(0 ≤ wi z ∧ wi z < 4)) : run sh (d + 1) 77 [mR l, mI z] σ = some (some (mI (-1)), σ) := by
  obtain ⟨ho, r0, r1, k1, k2, l1, l2, hw⟩ := id hs
  by_cases h : wi z < 0
  · simp (disch := first | assumption | omega | (simp (disch := omega) only [wN, w0, w1]; omega)) only [e77_0, e77_1, e77_4, e77_5, e77_6, e77_9, e77_10, e77_13, e77_14, e77_17, e77_18, e77_19, e77_22, e77_23, kl_I, kl_R, kl_N, kl_L, oSm, oNn, Option.bind_some, wN, if_pos, if_neg, nS, tN, t0, w0, w1, w2, w3, w4, w5, wm1, upA_ne, upA_same, if_true, if_false, q77, r0, l1]
  · simp (disch := first | assumption | omega | (simp (disch := omega) only [wN, w0, w1]; omega)) only [e77_0, e77_1, e77_4, e77_5, e77_6, e77_9, e77_10, e77_13, e77_14, e77_17, e77_18, e77_19, e77_22, e77_23, kl_I, kl_R, kl_N, kl_L, oSm, oNn, Option.bind_some, wN, if_pos, if_neg, nS, tN, t0, w0, w1, w2, w3, w4, w5, wm1, upA_ne, upA_same, if_true, if_false, q77, r0, l1]
theorem Y78 (hs : lyS sh l) (hL : HL σ l n P) : run sh (d + 1) 78 [mR l, mI z] σ = some (some (mI (if 0 ≤ wi z ∧ wi z < 5 then laS P (wi z).toNat n else -1)), σ) := by
  obtain ⟨ho, r0, r1, k1, k2, l1, l2, hw⟩ := id hs
  by_cases h : 0 ≤ wi z ∧ wi z < 5
  · have h1 := hL.2 (wi z).toNat (by omega)
    simp (disch := first | assumption | omega | (simp (disch := omega) only [wN, w0, w1]; omega)) only [e78_0, e78_1, e78_4, e78_5, e78_6, e78_9, e78_10, e78_13, e78_14, e78_17, e78_18, e78_19, e78_22, e78_23, kl_I, kl_R, kl_N, kl_L, oSm, oNn, Option.bind_some, wN, if_pos, if_neg, nS, tN, t0, w0, w1, w2, w3, w4, w5, wm1, upA_ne, upA_same, if_true, if_false, q78, r1, l2, h1]
  · rw [if_neg h]
    by_cases h2 : wi z < 0
    · simp (disch := first | assumption | omega | (simp (disch := omega) only [wN, w0, w1]; omega)) only [e78_0, e78_1, e78_4, e78_5, e78_6, e78_9, e78_10, e78_13, e78_14, e78_17, e78_18, e78_19, e78_22, e78_23, kl_I, kl_R, kl_N, kl_L, oSm, oNn, Option.bind_some, wN, if_pos, if_neg, nS, tN, t0, w0, w1, w2, w3, w4, w5, wm1, upA_ne, upA_same, if_true, if_false, q78, r1, l2]
    · simp (disch := first | assumption | omega | (simp (disch := omega) only [wN, w0, w1]; omega)) only [e78_0, e78_1, e78_4, e78_5, e78_6, e78_9, e78_10, e78_13, e78_14, e78_17, e78_18, e78_19, e78_22, e78_23, kl_I, kl_R, kl_N, kl_L, oSm, oNn, Option.bind_some, wN, if_pos, if_neg, nS, tN, t0, w0, w1, w2, w3, w4, w5, wm1, upA_ne, upA_same, if_true, if_false, q78, r1, l2]
theorem N78 (hs : lyS sh l) (hL : HL σ l n P) (hp : p < 5) : run sh (d + 1) 78 [mR l, mI (p : Int)] σ = some (some (mI (laS P p n)), σ) := by
  rw [Y78 hs hL, wN (by omega), if_pos (by omega), tN]
theorem Y81 (hs : lyS sh l) (hL : HL σ l n P) (hP : okP n m P) (hn : n ≤ 4) (hm : m ≤ 5) (hb : bdS sh b) (hB : HB σ b m E) (hF : HW σ b m F) (hg : glS sh g cap) (hG : HG σ g c) (hc : c.length ≤ cap) (hcap : cap ≤ 100) (hv : okC n c) (hj : j < c.length) (h2 : 3 ≤ (gA c j).1) : run sh (d + 2) 81 [mR l, mR g, mI (j : Int), mR b] σ = some (some (mI (F (P (gA c j).2.1) (P (gA c j).2.2.toNat) : Int)), σ) := by
  have ho := hs.1
  have hgo := hg.1
  have hbo := hb.1
  have v := hv.at hj
  have v5 := v.2.2.2.2 h2
  obtain ⟨t, ht⟩ : ∃ t : Nat, (gA c j).2.2 = (t : Int) := ⟨(gA c j).2.2.toNat, by omega⟩
  have e48 := L48 (d := d + 1) hg hG hc hcap hj
  rw [ht] at e48 v5
  have t1 := hP.1 (gA c j).2.1 v.2.1
  have t2 := hP.1 t (by omega)
  simp (disch := first | assumption | omega | (simp (disch := omega) only [wN, w0, w1]; omega)) only [e81_0, e81_1, e81_2, e81_3, e81_4, e81_7, e81_10, e81_11, e81_12, e81_13, e81_16, e81_19, e81_22, kl_I, kl_R, kl_N, kl_L, oSm, oNn, Option.bind_some, wN, if_pos, if_neg, nS, tN, t0, w0, w1, w2, w3, w4, w5, wm1, upA_ne, upA_same, if_true, if_false, q81, L47 hg hG hc hcap hj, e48, ht, Y77 hs hL hn v.2.1, Y77 hs hL hn (show t < n by omega), N10w hb hB hF hm t1 t2]
/-- each gate of two lines acts on lines that lie side by side -/
def gdB (F : Nat → Nat → Nat) (P : Nat → Nat) (c : List Gt) : Nat → Nat → Bool := fa (fun i => !decide (3 ≤ (gA c i).1) || decide (F (P (gA c i).2.1) (P (gA c i).2.2.toNat) = 1))
theorem Y82 (hs : lyS sh l) (hL : HL σ l n P) (hP : okP n m P) (hn : n ≤ 4) (hm : m ≤ 5) (hb : bdS sh b) (hB : HB σ b m E) (hF : HW σ b m F) (hg : glS sh g cap) (hG : HG σ g c) (hc : c.length ≤ cap) (hcap : cap ≤ 100) (hv : okC n c) : run sh (d + 3) 82 [mR l, mR g, mR b] σ = some (some (mI (if gdB F P c (c.length - 0) 0 = true then 1 else 0)), σ) := by
  have ho := hs.1
  have hgo := hg.1
  have hl := hG.1
  have L := for_dn (fun i => ev sh (d + 3) 82 2 [some (mR (l)), some (mR (g)), some (mR (b)), some (mI ((i : Nat) : Int))] [] (σ)) (fun i => some (some (mI (if gdB F P c (c.length - i) i = true then 1 else 0)), σ)) (c.length) (by
    show ev sh (d + 3) 82 2 [some (mR (l)), some (mR (g)), some (mR (b)), some (mI (((c.length) : Nat) : Int))] [] (σ) = some (some (mI (if gdB F P c (c.length - (c.length)) (c.length) = true then 1 else 0)), σ)
    unfold gdB
    rw [fa_e, e82_2]
    simp (disch := first | assumption | omega | (simp (disch := omega) only [wN, w0, w1]; omega)) only [e82_0, e82_1, e82_3, e82_4, e82_7, e82_10, e82_11, e82_12, e82_15, e82_18, e82_19, e82_20, e82_21, e82_22, e82_25, e82_26, e82_29, e82_30, e82_31, e82_34, e82_37, e82_38, kl_I, kl_R, kl_N, kl_L, oSm, oNn, Option.bind_some, wN, if_pos, if_neg, nS, tN, t0, w0, w1, w2, w3, w4, w5, wm1, upA_ne, upA_same, if_true, if_false, hl]) (fun i hi ih => by
    replace ih : ev sh (d + 3) 82 2 [some (mR (l)), some (mR (g)), some (mR (b)), some (mI (((i + 1) : Nat) : Int))] [] (σ) = some (some (mI (if gdB F P c (c.length - (i + 1)) (i + 1) = true then 1 else 0)), σ) := ih
    show ev sh (d + 3) 82 2 [some (mR (l)), some (mR (g)), some (mR (b)), some (mI ((i : Nat) : Int))] [] (σ) = some (some (mI (if gdB F P c (c.length - i) i = true then 1 else 0)), σ)
    unfold gdB at ih ⊢
    rw [e82_2, fa_s hi]
    by_cases h : 3 ≤ (gA c i).1
    · have hf2 : F (P (gA c i).2.1) (P (gA c i).2.2.toNat) ≤ 99 := hF.le hm (by have := hP.1 (gA c i).2.1 (hv.at hi).2.1; omega) (by have := hP.1 (gA c i).2.2.toNat (by have := (hv.at hi).2.2.2.2 h; omega); omega)
      by_cases h1 : F (P (gA c i).2.1) (P (gA c i).2.2.toNat) = 1
      · simp (disch := first | assumption | omega | (simp (disch := omega) only [wN, w0, w1]; omega)) only [e82_0, e82_1, e82_3, e82_4, e82_7, e82_10, e82_11, e82_12, e82_15, e82_18, e82_19, e82_20, e82_21, e82_22, e82_25, e82_26, e82_29, e82_30, e82_31, e82_34, e82_37, e82_38, kl_I, kl_R, kl_N, kl_L, oSm, oNn, Option.bind_some, wN, if_pos, if_neg, nS, tN, t0, w0, w1, w2, w3, w4, w5, wm1, upA_ne, upA_same, if_true, if_false, hl, L50 hg hG hc hcap hi hv, Y81 hs hL hP hn hm hb hB hF hg hG hc hcap hv hi h, e01, ih]
        simp [h1]
      · simp (disch := first | assumption | omega | (simp (disch := omega) only [wN, w0, w1]; omega)) only [e82_0, e82_1, e82_3, e82_4, e82_7, e82_10, e82_11, e82_12, e82_15, e82_18, e82_19, e82_20, e82_21, e82_22, e82_25, e82_26, e82_29, e82_30, e82_31, e82_34, e82_37, e82_38, kl_I, kl_R, kl_N, kl_L, oSm, oNn, Option.bind_some, wN, if_pos, if_neg, nS, tN, t0, w0, w1, w2, w3, w4, w5, wm1, upA_ne, upA_same, if_true, if_false, hl, L50 hg hG hc hcap hi hv, Y81 hs hL hP hn hm hb hB hF hg hG hc hcap hv hi h, e01, ih]
        simp [h, h1]
    · simp (disch := first | assumption | omega | (simp (disch := omega) only [wN, w0, w1]; omega)) only [e82_0, e82_1, e82_3, e82_4, e82_7, e82_10, e82_11, e82_12, e82_15, e82_18, e82_19, e82_20, e82_21, e82_22, e82_25, e82_26, e82_29, e82_30, e82_31, e82_34, e82_37, e82_38, kl_I, kl_R, kl_N, kl_L, oSm, oNn, Option.bind_some, wN, if_pos, if_neg, nS, tN, t0, w0, w1, w2, w3, w4, w5, wm1, upA_ne, upA_same, if_true, if_false, hl, L50 hg hG hc hcap hi hv, e01, ih]
      simp [h]) 0 (Nat.zero_le _)
  simp (disch := first | assumption | omega | (simp (disch := omega) only [wN, w0, w1]; omega)) only [e82_0, e82_1, e82_3, e82_4, e82_7, e82_10, e82_11, e82_12, e82_15, e82_18, e82_19, e82_20, e82_21, e82_22, e82_25, e82_26, e82_29, e82_30, e82_31, e82_34, e82_37, e82_38, kl_I, kl_R, kl_N, kl_L, oSm, oNn, Option.bind_some, wN, if_pos, if_neg, nS, tN, t0, w0, w1, w2, w3, w4, w5, wm1, upA_ne, upA_same, if_true, if_false, q82]
  exact L
/-- how far from good, from gate i on: the sum below i -/
def ovS (F : Nat → Nat → Nat) (P : Nat → Nat) (c : List Gt) : Nat → Int
  | 0 => 0
  | i + 1 => ovS F P c i + (if 3 ≤ (gA c i).1 then (F (P (gA c i).2.1) (P (gA c i).2.2.toNat) : Int) - 1 else 0)
theorem Y83 (hs : lyS sh l) (hL : HL σ l n P) (hP : okP n m P) (hn : n ≤ 4) (hm : m ≤ 5) (hb : bdS sh b) (hB : HB σ b m E) (hF : HW σ b m F) (hg : glS sh g cap) (hG : HG σ g c) (hc : c.length ≤ cap) (hcap : cap ≤ 100) (hv : okC n c) : run sh (d + 3) 83 [mR l, mR g, mR b] σ = some (some (mI (ovS F P c c.length)), σ) := by
  have ho := hs.1
  have hgo := hg.1
  have hl := hG.1
  have L := for_up (fun i => ev sh (d + 3) 83 5 [some (mR (l)), some (mR (g)), some (mR (b)), some (mI (ovS F P c i)), some (mI ((i : Nat) : Int))] [] (σ)) (c.length) (fun i hi => by
    show ev sh (d + 3) 83 5 [some (mR (l)), some (mR (g)), some (mR (b)), some (mI (ovS F P c i)), some (mI ((i : Nat) : Int))] [] (σ) = ev sh (d + 3) 83 5 [some (mR (l)), some (mR (g)), some (mR (b)), some (mI (ovS F P c (i + 1))), some (mI (((i + 1) : Nat) : Int))] [] (σ)
    rw [e83_5]
    by_cases h : 3 ≤ (gA c i).1
    · simp (disch := first | assumption | omega | (simp (disch := omega) only [wN, w0, w1]; omega)) only [e83_0, e83_1, e83_2, e83_3, e83_7, e83_8, e83_11, e83_14, e83_15, e83_17, e83_20, e83_23, e83_24, e83_25, e83_26, e83_28, e83_29, e83_32, e83_33, e83_34, e83_35, e83_36, e83_39, e83_42, e83_43, kl_I, kl_R, kl_N, kl_L, oSm, oNn, Option.bind_some, wN, if_pos, if_neg, nS, tN, t0, w0, w1, w2, w3, w4, w5, wm1, upA_ne, upA_same, if_true, if_false, hl, L50 hg hG hc hcap hi hv, Y81 hs hL hP hn hm hb hB hF hg hG hc hcap hv hi h, e01, ovS]
    · simp (disch := first | assumption | omega | (simp (disch := omega) only [wN, w0, w1]; omega)) only [e83_0, e83_1, e83_2, e83_3, e83_7, e83_8, e83_11, e83_14, e83_15, e83_17, e83_20, e83_23, e83_24, e83_25, e83_26, e83_28, e83_29, e83_32, e83_33, e83_34, e83_35, e83_36, e83_39, e83_42, e83_43, kl_I, kl_R, kl_N, kl_L, oSm, oNn, Option.bind_some, wN, if_pos, if_neg, nS, tN, t0, w0, w1, w2, w3, w4, w5, wm1, upA_ne, upA_same, if_true, if_false, hl, L50 hg hG hc hcap hi hv, e01, ovS]
      simp) 0 (Nat.zero_le _)
  simp (disch := first | assumption | omega | (simp (disch := omega) only [wN, w0, w1]; omega)) only [e83_0, e83_1, e83_2, e83_3, e83_7, e83_8, e83_11, e83_14, e83_15, e83_17, e83_20, e83_23, e83_24, e83_25, e83_26, e83_28, e83_29, e83_32, e83_33, e83_34, e83_35, e83_36, e83_39, e83_42, e83_43, kl_I, kl_R, kl_N, kl_L, oSm, oNn, Option.bind_some, wN, if_pos, if_neg, nS, tN, t0, w0, w1, w2, w3, w4, w5, wm1, upA_ne, upA_same, if_true, if_false, q83]
  refine L.trans ?_
  show ev sh (d + 3) 83 5 [some (mR (l)), some (mR (g)), some (mR (b)), some (mI (ovS F P c c.length)), some (mI ((c.length : Nat) : Int))] [] σ = _
  rw [e83_5]
  simp (disch := first | assumption | omega | (simp (disch := omega) only [wN, w0, w1]; omega)) only [e83_0, e83_1, e83_2, e83_3, e83_7, e83_8, e83_11, e83_14, e83_15, e83_17, e83_20, e83_23, e83_24, e83_25, e83_26, e83_28, e83_29, e83_32, e83_33, e83_34, e83_35, e83_36, e83_39, e83_42, e83_43, kl_I, kl_R, kl_N, kl_L, oSm, oNn, Option.bind_some, wN, if_pos, if_neg, nS, tN, t0, w0, w1, w2, w3, w4, w5, wm1, upA_ne, upA_same, if_true, if_false, hl]
/-- what is written of a layout: every cell -/
def HLx (σ σ' : Mem) (l o : Nat) : Prop := (∀ x, x < 4 → σ'.1 (l + 1) x = σ.1 (o + 1) x) ∧ ∀ p, p < 5 → σ'.1 (l + 2) p = σ.1 (o + 2) p
theorem Y80 (hs : lyS sh l) {u : Int} (hu : 0 ≤ wi u ∧ wi u < 4 ∨ wi u < 0) (hp : p < 5) : run sh (d + 1) 80 [mR l, mI u, mI (p : Int)] σ = some (none, (if 0 ≤ wi u then upA (upA σ.1 (l + 2) (up1 (σ.1 (l + 2)) p u)) (l + 1) (up1 (σ.1 (l + 1)) (wi u).toNat (p : Int)) else upA σ.1 (l + 2) (up1 (σ.1 (l + 2)) p u), σ.2)) := by
  obtain ⟨ho, r0, r1, k1, k2, l1, l2, hw⟩ := id hs
  by_cases h : wi u < 0
  · rw [if_neg (by omega)]
    simp (disch := first | assumption | omega | (simp (disch := omega) only [wN, w0, w1]; omega)) only [e80_0, e80_1, e80_4, e80_5, e80_6, e80_9, e80_10, e80_13, e80_14, e80_17, e80_18, e80_19, e80_20, e80_21, e80_24, e80_25, e80_26, e80_29, e80_30, e80_33, e80_34, e80_37, e80_38, e80_39, e80_40, kl_I, kl_R, kl_N, kl_L, oSm, oNn, Option.bind_some, wN, if_pos, if_neg, nS, tN, t0, w0, w1, w2, w3, w4, w5, wm1, upA_ne, upA_same, if_true, if_false, q80, r0, r1, l1, l2]
  · rw [if_pos (by omega)]
    simp (disch := first | assumption | omega | (simp (disch := omega) only [wN, w0, w1]; omega)) only [e80_0, e80_1, e80_4, e80_5, e80_6, e80_9, e80_10, e80_13, e80_14, e80_17, e80_18, e80_19, e80_20, e80_21, e80_24, e80_25, e80_26, e80_29, e80_30, e80_33, e80_34, e80_37, e80_38, e80_39, e80_40, kl_I, kl_R, kl_N, kl_L, oSm, oNn, Option.bind_some, wN, if_pos, if_neg, nS, tN, t0, w0, w1, w2, w3, w4, w5, wm1, upA_ne, upA_same, if_true, if_false, q80, r0, r1, l1, l2]
theorem Y79 (hs : lyS sh l) (hL : HL σ l n P) (hP : okP n m P) (hn : n ≤ 4) (hm : m ≤ 5) (hp : p < m) (hq : q < m) : End (run sh (d + 2) 79 [mR l, mI (p : Int), mI (q : Int)] σ) (fun r σ' => r = none ∧ HL σ' l n (swP p q P) ∧ frI (l + 1) (l + 2) σ σ') := by
  have ho := hs.1
  have nn : ¬ 0 ≤ wi (-1 : Int) := by rw [wm1]; decide
  have key : ∀ u : Int, (u = -1 ∨ ∃ x : Nat, x < n ∧ u = x) → (0 ≤ wi u ∧ wi u < 4 ∨ wi u < 0) := by
    rintro u (rfl | ⟨x, h1, rfl⟩)
    · right; rw [wm1]; omega
    · left; rw [wN (by omega)]; omega
  have c1 : laS P p n = -1 ∨ ∃ x : Nat, x < n ∧ laS P p n = x := by
    rcases laS_cases P p n with ⟨h1, _⟩ | ⟨x, h1, h2, _⟩
    · exact Or.inl h1
    · exact Or.inr ⟨x, h1, h2⟩
  have c2 : laS P q n = -1 ∨ ∃ x : Nat, x < n ∧ laS P q n = x := by
    rcases laS_cases P q n with ⟨h1, _⟩ | ⟨x, h1, h2, _⟩
    · exact Or.inl h1
    · exact Or.inr ⟨x, h1, h2⟩
  simp (disch := first | assumption | omega | (simp (disch := omega) only [wN, w0, w1]; omega)) only [e79_0, e79_1, e79_2, e79_5, e79_6, e79_7, e79_8, e79_11, e79_13, e79_14, e79_15, e79_16, e79_19, e79_20, e79_22, e79_23, e79_26, kl_I, kl_R, kl_N, kl_L, oSm, oNn, Option.bind_some, wN, if_pos, if_neg, nS, tN, t0, w0, w1, w2, w3, w4, w5, wm1, upA_ne, upA_same, if_true, if_false, q79, N78 hs hL (show p < 5 by omega), N78 hs hL (show q < 5 by omega), Y80 hs (key _ c1) (show q < 5 by omega), Y80 hs (key _ c2) (show p < 5 by omega)]
  refine End.of rfl ⟨rfl, ⟨fun x hx => ?_, fun r hr => ?_⟩, ⟨fun a ha => ?_, by repeat' split <;> rfl⟩⟩
  · have h0 := hL.1 x hx
    rcases laS_cases P p n with ⟨h1, h2⟩ | ⟨y, h1, h2, h3⟩
    · rcases laS_cases P q n with ⟨g1, g2⟩ | ⟨w, g1, g2, g3⟩
      · rw [h1, g1]
        have e : swP p q P x = P x := by
          have := h2 x hx
          have := g2 x hx
          simp [swP, *]
        rw [if_neg nn, if_neg nn]
        simp (disch := omega) only [upA_ne, upA_same, e]
        exact h0
      · rw [h1, g2]
        rw [if_neg nn]
        have hh := h2 x hx
        by_cases e0 : x = w
        · subst e0
          have e : swP p q P x = p := by simp [swP, hh, g3]
          simp (disch := omega) only [wN, tN, if_pos, upA_ne, upA_same, up1_same, e]
        · have gg : P x ≠ q := fun z => e0 (hP.2 x w hx g1 (z.trans g3.symm))
          have e : swP p q P x = P x := by simp [swP, hh, gg]
          simp (disch := omega) only [wN, tN, if_pos, upA_ne, upA_same, up1_ne, e]
          exact h0
    · rcases laS_cases P q n with ⟨g1, g2⟩ | ⟨w, g1, g2, g3⟩
      · rw [h2, g1]
        rw [if_neg nn]
        have gg := g2 x hx
        by_cases e0 : x = y
        · subst e0
          have e : swP p q P x = q := by simp [swP, h3]
          simp (disch := omega) only [wN, tN, if_pos, upA_ne, upA_same, up1_same, e]
        · have hh : P x ≠ p := fun z => e0 (hP.2 x y hx h1 (z.trans h3.symm))
          have e : swP p q P x = P x := by simp [swP, hh, gg]
          simp (disch := omega) only [wN, tN, if_pos, upA_ne, upA_same, up1_ne, e]
          exact h0
      · rw [h2, g2]
        by_cases e1 : x = w
        · subst e1
          have e : swP p q P x = p := by
            unfold swP
            repeat' split
            all_goals omega
          simp (disch := omega) only [wN, tN, if_pos, upA_ne, upA_same, up1_same, e]
        · have gg : P x ≠ q := fun z => e1 (hP.2 x w hx g1 (z.trans g3.symm))
          by_cases e0 : x = y
          · subst e0
            have e : swP p q P x = q := by simp [swP, h3]
            simp (disch := omega) only [wN, tN, if_pos, upA_ne, upA_same, up1_same, up1_ne, e]
          · have hh : P x ≠ p := fun z => e0 (hP.2 x y hx h1 (z.trans h3.symm))
            have e : swP p q P x = P x := by simp [swP, hh, gg]
            simp (disch := omega) only [wN, tN, if_pos, upA_ne, upA_same, up1_ne, e]
            exact h0
  · have h0 := hL.2 r hr
    rw [laS_sw hP]
    have e : ∀ (f : Nat → Nat → Int) (u : Int) (k : Nat → Int), (if 0 ≤ wi u then upA f (l + 1) k else f) (l + 2) = f (l + 2) := by
      intro f u k
      split
      · rw [upA_ne (by omega)]
      · rfl
    show (if 0 ≤ wi (laS P q n) then upA _ (l + 1) _ else _) (l + 2) r = _
    rw [e, upA_same, e, upA_same]
    by_cases h1 : r = p
    · subst h1
      rw [up1_same, if_pos rfl]
    · rw [up1_ne h1, if_neg h1]
      by_cases h2 : r = q
      · subst h2
        rw [up1_same, if_pos rfl]
      · rw [up1_ne h2, if_neg h2]
        exact h0
  · repeat' split
    all_goals simp (disch := omega) only [upA_ne]
end LAY

