/-! ===== Layout ===== -/
def lyS (sh : Shp) (l : Nat) : Prop := ob sh 5 2 l ∧ srf sh l 0 = l + 1 ∧ srf sh l 1 = l + 2 ∧ skd sh (l + 1) = 0 ∧ skd sh (l + 2) = 0 ∧ sln sh (l + 1) = 4 ∧ sln sh (l + 2) = 5 ∧ l + 2 < sh.1
/-- the line at place p, of n lines, or -1 -/
def laS (P : Nat → Nat) (p : Nat) : Nat → Int
  | 0 => -1
  | n + 1 => if P n = p then (n : Int) else laS P p n
/-- n lines on places below m, no two on one -/
def okP (n m : Nat) (P : Nat → Nat) : Prop := (∀ x, x < n → P x < m) ∧ ∀ x y, x < n → y < n → P x = P y → x = y
def HL (σ : Mem) (l n : Nat) (P : Nat → Nat) : Prop := (∀ x, x < n → σ.1 (l + 1) x = (P x : Int)) ∧ ∀ p, p < 5 → σ.1 (l + 2) p = laS P p n
theorem HL.fr {x y l n : Nat} {σ σ' : Mem} {P : Nat → Nat} (h : HL σ l n P) (hf : frI x y σ σ') (ho : l + 2 < x ∨ y < l) : HL σ' l n P := by
  refine ⟨fun z hz => ?_, fun p hp => ?_⟩
  · rw [hf.1 _ (by omega)]; exact h.1 z hz
  · rw [hf.1 _ (by omega)]; exact h.2 p hp
theorem laS_cases (P : Nat → Nat) (p : Nat) : ∀ n, (laS P p n = -1 ∧ ∀ x, x < n → P x ≠ p) ∨ ∃ x : Nat, x < n ∧ laS P p n = (x : Int) ∧ P x = p
  | 0 => Or.inl ⟨rfl, fun x h => by omega⟩
  | n + 1 => by
    unfold laS
    by_cases h : P n = p
    · exact Or.inr ⟨n, by omega, by rw [if_pos h], h⟩
    · rw [if_neg h]
      rcases laS_cases P p n with ⟨h1, h2⟩ | ⟨x, h1, h2, h3⟩
      · refine Or.inl ⟨h1, fun x hx => ?_⟩
        by_cases e : x = n
        · subst e; exact h
        · exact h2 x (by omega)
      · exact Or.inr ⟨x, by omega, h2, h3⟩
theorem laS_of {P : Nat → Nat} {n m x : Nat} (h : okP n m P) (hx : x < n) : laS P (P x) n = (x : Int) := by
  rcases laS_cases P (P x) n with ⟨h1, h2⟩ | ⟨y, h1, h2, h3⟩
  · exact absurd rfl (h2 x hx)
  · rw [h2, h.2 y x h1 hx h3]
/-- what stands at p and at q exchanged -/
def swP (p q : Nat) (P : Nat → Nat) : Nat → Nat := fun x => if P x = p then q else if P x = q then p else P x
theorem okP.sw {n m p q : Nat} {P : Nat → Nat} (h : okP n m P) (hp : p < m) (hq : q < m) : okP n m (swP p q P) := by
  refine ⟨fun x hx => ?_, fun x y hx hy e => ?_⟩
  · have := h.1 x hx
    unfold swP
    split
    · exact hq
    · split
      · exact hp
      · exact this
  · unfold swP at e
    have := h.2 x y hx hy
    repeat' split at e
    all_goals first | exact this (by omega)
theorem laS_sw {n m p q r : Nat} {P : Nat → Nat} (h : okP n m P) : laS (swP p q P) r n = if r = p then laS P q n else if r = q then laS P p n else laS P r n := by
  have key : ∀ s, (∀ x, x < n → (swP p q P x = r ↔ P x = s)) → laS (swP p q P) r n = laS P s n := by
    intro s hs
    rcases laS_cases P s n with ⟨h1, h2⟩ | ⟨y, h1, h2, h3⟩
    · rcases laS_cases (swP p q P) r n with ⟨h4, h5⟩ | ⟨z, h4, h5, h6⟩
      · rw [h1, h4]
      · exact absurd ((hs z h4).1 h6) (h2 z h4)
    · rcases laS_cases (swP p q P) r n with ⟨h4, h5⟩ | ⟨z, h4, h5, h6⟩
      · exact absurd ((hs y h1).2 h3) (h5 y h1)
      · rw [h2, h5, h.2 z y h4 h1 (((hs z h4).1 h6).trans h3.symm)]
  by_cases h1 : r = p
  · rw [if_pos h1]
    refine key q fun x hx => ?_
    unfold swP
    repeat' split
    all_goals omega
  · rw [if_neg h1]
    by_cases h2 : r = q
    · rw [if_pos h2]
      refine key p fun x hx => ?_
      unfold swP
      repeat' split
      all_goals omega
    · rw [if_neg h2]
      refine key r fun x hx => ?_
      unfold swP
      repeat' split
      all_goals omega
section LAY
variable {sh : Shp} {d l o b g cap n m : Nat} {σ : Mem} {P : Nat → Nat} {z : Int} {x p q j : Nat} {c : List Gt} {E : List Ed} {F : Nat → Nat → Nat}
theorem Y77 (hs : lyS sh l) (hL : HL σ l n P) (hn : n ≤ 4) (hx : x < n) : run sh (d + 1) 77 [mR l, mI (x : Int)] σ = some (some (mI (P x : Int)), σ) := by
  obtain ⟨ho, r0, r1, k1, k2, l1, l2, hw⟩ := id hs
  have h1 := hL.1 x hx
  simp (disch := first | assumption | omega | (simp (disch := omega) only [wN, w0, w1]; omega)) only [e77_0, e77_1, e77_4, e77_5, e77_6, e77_9, e77_10, e77_13, e77_14, e77_17, e77_18, e77_19, e77_22, e77_23, kl_I, kl_R, kl_N, kl_L, oSm, oNn, Option.bind_some, wN, if_pos, if_neg, nS, tN, t0, w0, w1, w2, w3, w4, w5, wm1, upA_ne, upA_same, if_true, if_false, q77, r0, l1, h1]
theorem Y77b (hs : lyS sh l) (hz : ¬(0 ≤ wi z ∧ wi z < 4)) : run sh (d + 1) 77 [mR l, mI z] σ = some (some (mI (-1)), σ) := by
  obtain ⟨ho, r0, r1, k1, k2, l1, l2, hw⟩ := id hs
  by_cases h : wi z < 0
  · simp (disch := first | assumption | omega | (simp (disch := omega) only [wN, w0, w1]; omega)) only [e77_0, e77_1, e77_4, e77_5, e77_6, e77_9, e77_10, e77_13, e77_14, e77_17, e77_18, e77_19, e77_22, e77_23, kl_I, kl_R, kl_N, kl_L, oSm, oNn, Option.bind_some, wN, if_pos, if_neg, nS, tN, t0, w0, w1, w2, w3, w4, w5, wm1, upA_ne, upA_same, if_true, if_false, q77, r0, l1]
  · simp (disch := first | assumption | omega | (simp (disch := omega) only [wN, w0, w1]; omega)) only [e77_0, e77_1, e77_4, e77_5, e77_6, e77_9, e77_10, e77_13, e77_14, e77_17, e77_18, e77_19, e77_22, e77_23, kl_I, kl_R, kl_N, kl_L, oSm, oNn, Option.bind_some, wN, if_pos, if_neg, nS, tN, t0, w0, w1, w2, w3, w4, w5, wm1, upA_ne, upA_same, if_true, if_false, q77, r0, l1]
/-- each gate of two lines acts on lines that lie side by side -/
def gdB (F : Nat → Nat → Nat) (P : Nat → Nat) (c : List Gt) : Nat → Nat → Bool := fa (fun i => !decide (3 ≤ (gA c i).1) || decide (F (P (gA c i).2.1) (P (gA c i).2.2.toNat) = 1))
/-- how far from good, from gate i on: the sum below i -/
def ovS (F : Nat → Nat → Nat) (P : Nat → Nat) (c : List Gt) : Nat → Int
  | 0 => 0
  | i + 1 => ovS F P c i + (if 3 ≤ (gA c i).1 then (F (P (gA c i).2.1) (P (gA c i).2.2.toNat) : Int) - 1 else 0)
/-- what is written of a layout: every cell -/
def HLx (σ σ' : Mem) (l o : Nat) : Prop := (∀ x, x < 4 → σ'.1 (l + 1) x = σ.1 (o + 1) x) ∧ ∀ p, p < 5 → σ'.1 (l + 2) p = σ.1 (o + 2) p
theorem Y80 (hs : lyS sh l) {u : Int} (hu : 0 ≤ wi u ∧ wi u < 4 ∨ wi u < 0) (hp : p < 5) : run sh (d + 1) 80 [mR l, mI u, mI (p : Int)] σ = some (none, (if 0 ≤ wi u then upA (upA σ.1 (l + 2) (up1 (σ.1 (l + 2)) p u)) (l + 1) (up1 (σ.1 (l + 1)) (wi u).toNat (p : Int)) else upA σ.1 (l + 2) (up1 (σ.1 (l + 2)) p u), σ.2)) := by
  obtain ⟨ho, r0, r1, k1, k2, l1, l2, hw⟩ := id hs
  by_cases h : wi u < 0
  · rw [if_neg (by omega)]
    simp (disch := first | assumption | omega | (simp (disch := omega) only [wN, w0, w1]; omega)) only [e80_0, e80_1, e80_4, e80_5, e80_6, e80_9, e80_10, e80_13, e80_14, e80_17, e80_18, e80_19, e80_20, e80_21, e80_24, e80_25, e80_26, e80_29, e80_30, e80_33, e80_34, e80_37, e80_38, e80_39, e80_40, kl_I, kl_R, kl_N, kl_L, oSm, oNn, Option.bind_some, wN, if_pos, if_neg, nS, tN, t0, w0, w1, w2, w3, w4, w5, wm1, upA_ne, upA_same, if_true, if_false, q80, r0, r1, l1, l2]
  · rw [if_pos (by omega)]
    simp (disch := first | assumption | omega | (simp (disch := omega) only [wN, w0, w1]; omega)) only [e80_0, e80_1, e80_4, e80_5, e80_6, e80_9, e80_10, e80_13, e80_14, e80_17, e80_18, e80_19, e80_20, e80_21, e80_24, e80_25, e80_26, e80_29, e80_30, e80_33, e80_34, e80_37, e80_38, e80_39, e80_40, kl_I, kl_R, kl_N, kl_L, oSm, oNn, Option.bind_some, wN, if_pos, if_neg, nS, tN, t0, w0, w1, w2, w3, w4, w5, wm1, upA_ne, upA_same, if_true, if_false, q80, r0, r1, l1, l2]
end LAY
