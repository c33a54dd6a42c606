/-! ===== how far: what holds of it ===== -/
theorem fwJ_eq {k i : Nat} {F : Nat → Nat → Nat} (h : F k k = 0) : ∀ n p q, fwJ k i n F p q = if p = i ∧ q < n then min (F i q) (F i k + F k q) else F p q
  | 0, p, q => by rw [if_neg (by omega)]; rfl
  | n + 1, p, q => by
    rw [fwJ]
    unfold fw1
    have e1 := fwJ_eq (i := i) h n i n
    have e2 := fwJ_eq (i := i) h n i k
    have e3 := fwJ_eq (i := i) h n k n
    rw [if_neg (by omega)] at e1
    rw [if_neg (by omega)] at e3
    have e2' : fwJ k i n F i k = F i k := by
      rw [e2]
      split
      · rw [h]; omega
      · rfl
    by_cases hc : p = i ∧ q = n
    · rw [if_pos hc, e1, e2', e3, if_pos (by omega), hc.2]
    · rw [if_neg hc, fwJ_eq (i := i) h n p q]
      by_cases hd : p = i ∧ q < n
      · rw [if_pos hd, if_pos (by omega)]
      · rw [if_neg hd, if_neg (by omega)]
theorem fwI_eq {N k : Nat} {F : Nat → Nat → Nat} (h : F k k = 0) : ∀ n p q, fwI N k n F p q = if p < n ∧ q < N then min (F p q) (F p k + F k q) else F p q
  | 0, p, q => by rw [if_neg (by omega)]; rfl
  | n + 1, p, q => by
    rw [fwI]
    have hk : fwI N k n F k k = 0 := by
      rw [fwI_eq h n k k]
      split
      · rw [h]; rfl
      · exact h
    rw [fwJ_eq hk]
    by_cases hc : p = n ∧ q < N
    · obtain ⟨rfl, hq⟩ := hc
      have e1 := fwI_eq (N := N) h p p q
      have e2 := fwI_eq (N := N) h p p k
      have e3 := fwI_eq (N := N) h p k q
      rw [if_neg (by omega)] at e1 e2
      have e3' : fwI N k p F k q = F k q := by
        rw [e3]
        split
        · rw [h]; omega
        · rfl
      rw [if_pos ⟨rfl, hq⟩, if_pos (by omega), e1, e2, e3']
    · rw [if_neg hc, fwI_eq h n p q]
      by_cases hd : p < n ∧ q < N
      · rw [if_pos hd, if_pos (by omega)]
      · rw [if_neg hd, if_neg (by omega)]
theorem fwK_d {N : Nat} {F : Nat → Nat → Nat} (h : ∀ p, F p p = 0) : ∀ k p, fwK N k F p p = 0
  | 0, p => h p
  | k + 1, p => by
    rw [fwK, fwI_eq (fwK_d h k k)]
    split
    · rw [fwK_d h k p]; exact Nat.zero_min _
    · exact fwK_d h k p
theorem fwK_s {N : Nat} {F : Nat → Nat → Nat} (h : ∀ p, F p p = 0) (k p q : Nat) : fwK N (k + 1) F p q = if p < N ∧ q < N then min (fwK N k F p q) (fwK N k F p k + fwK N k F k q) else fwK N k F p q := by
  rw [fwK, fwI_eq (fwK_d h k k)]
theorem fwK_sy {N : Nat} {F : Nat → Nat → Nat} (h : ∀ p, F p p = 0) (hs : ∀ p q, F p q = F q p) : ∀ k p q, fwK N k F p q = fwK N k F q p
  | 0, p, q => hs p q
  | k + 1, p, q => by
    have i1 := fwK_sy (N := N) h hs k p q
    have i2 := fwK_sy (N := N) h hs k p k
    have i3 := fwK_sy (N := N) h hs k k q
    rw [fwK_s h, fwK_s h, i1, i2, i3]
    by_cases hc : p < N ∧ q < N
    · rw [if_pos hc, if_pos (by omega), Nat.add_comm]
    · rw [if_neg hc, if_neg (by omega)]
theorem fwK_le {N : Nat} {F : Nat → Nat → Nat} (h : ∀ p, F p p = 0) : ∀ k p q, fwK N k F p q ≤ F p q
  | 0, p, q => Nat.le_refl _
  | k + 1, p, q => by
    have i1 := fwK_le (N := N) h k p q
    rw [fwK_s h]
    split <;> omega
theorem fwK_tri {N : Nat} {F : Nat → Nat → Nat} (h : ∀ p, F p p = 0) : ∀ k, k ≤ N → ∀ x i j, x < k → i < N → j < N → fwK N k F i j ≤ fwK N k F i x + fwK N k F x j
  | 0, _, x, i, j, hx, _, _ => by omega
  | k + 1, hk, x, i, j, hx, hi, hj => by
    have t := fwK_tri (N := N) h k (by omega)
    have dk := fwK_d (N := N) h k k
    have s1 := fwK_s (N := N) h k i j
    have s2 := fwK_s (N := N) h k i x
    have s3 := fwK_s (N := N) h k x j
    rw [if_pos (by omega)] at s1 s2 s3
    rw [s1, s2, s3]
    by_cases e : x = k
    · subst e
      rw [dk]; omega
    · have t1 := t x i j (by omega) hi hj
      have t2 := t x k j (by omega) (by omega) hj
      have t3 := t x i k (by omega) hi (by omega)
      omega
theorem f0_d (E : List Ed) (p : Nat) : f0 E p p = 0 := if_pos rfl
theorem jn1_sy (E : List Ed) (p q j : Nat) : jn1 E p q j = jn1 E q p j := by unfold jn1; rw [Nat.min_comm, Nat.max_comm]
theorem njB_sy (E : List Ed) (p q k i : Nat) : njB E p q k i = njB E q p k i := by
  unfold njB
  rw [show (fun t => !(jn1 E p q t)) = fun t => !(jn1 E q p t) from funext fun t => by rw [jn1_sy]]
theorem f0_sy (E : List Ed) (p q : Nat) : f0 E p q = f0 E q p := by
  unfold f0
  rw [njB_sy]
  by_cases h : p = q
  · rw [if_pos h, if_pos h.symm]
  · rw [if_neg h, if_neg (Ne.symm h)]
theorem f0_le (E : List Ed) (p q : Nat) : f0 E p q ≤ 99 := by
  unfold f0
  repeat' split
  all_goals omega
theorem farE_sy (E : List Ed) (p q : Nat) : farE E p q = farE E q p := fwK_sy (f0_d E) (f0_sy E) 5 p q
theorem farE_le (E : List Ed) (p q : Nat) : farE E p q ≤ 99 := Nat.le_trans (fwK_le (f0_d E) 5 p q) (f0_le E p q)
theorem farE_tri (E : List Ed) {x i j : Nat} (hx : x < 5) (hi : i < 5) (hj : j < 5) : farE E i j ≤ farE E i x + farE E x j := fwK_tri (f0_d E) 5 (Nat.le_refl _) x i j hx hi hj
theorem farE_e {E : List Ed} {m e : Nat} (hv : okE m E) (he : e < E.length) : farE E (eA E e).1 (eA E e).2 ≤ 1 := by
  have h5 := hv.at he
  refine Nat.le_trans (fwK_le (f0_d E) 5 _ _) ?_
  unfold f0
  rw [if_neg (by omega)]
  have hn : ¬ njB E (eA E e).1 (eA E e).2 E.length 0 = true := by
    intro h
    have := (fa_iff E.length 0).mp h e (by omega) (by omega)
    simp only [jn1, Nat.min_eq_left (show (eA E e).1 ≤ (eA E e).2 by omega), Nat.max_eq_right (show (eA E e).1 ≤ (eA E e).2 by omega)] at this
    simp at this
  rw [if_neg hn]
  exact Nat.le_refl _
/-- a swap brings two places nearer by one at most -/
theorem far_sw {E : List Ed} {m e x y : Nat} (hv : okE m E) (hm : m ≤ 5) (he : e < E.length) (hx : x < 5) (hy : y < 5) :
    farE E x y ≤ farE E (if x = (eA E e).1 then (eA E e).2 else if x = (eA E e).2 then (eA E e).1 else x) (if y = (eA E e).1 then (eA E e).2 else if y = (eA E e).2 then (eA E e).1 else y) + 1 := by
  have h5 := hv.at he
  have e1 := farE_e hv he
  have e2 := farE_sy E (eA E e).1 (eA E e).2
  have hp : (eA E e).1 < 5 := by omega
  have hq : (eA E e).2 < 5 := by omega
  generalize (eA E e).1 = p at *
  generalize (eA E e).2 = q at *
  have t1 := farE_tri E hq hx hy
  have t2 := farE_tri E hp hx hy
  by_cases x1 : x = p
  · subst x1
    rw [if_pos rfl]
    by_cases y1 : y = x
    · subst y1; rw [if_pos rfl]; have := fwK_d (N := 5) (f0_d E) 5 y; unfold farE; omega
    · rw [if_neg y1]
      by_cases y2 : y = q
      · subst y2; rw [if_pos rfl]; omega
      · rw [if_neg y2]; omega
  · rw [if_neg x1]
    by_cases x2 : x = q
    · subst x2
      rw [if_pos rfl]
      by_cases y1 : y = p
      · subst y1; rw [if_pos rfl]; omega
      · rw [if_neg y1]
        by_cases y2 : y = x
        · subst y2; rw [if_pos rfl]; have := fwK_d (N := 5) (f0_d E) 5 y; unfold farE; omega
        · rw [if_neg y2]; omega
    · rw [if_neg x2]
      by_cases y1 : y = p
      · subst y1; rw [if_pos rfl]; omega
      · rw [if_neg y1]
        by_cases y2 : y = q
        · subst y2; rw [if_pos rfl]; omega
        · rw [if_neg y2]; omega

