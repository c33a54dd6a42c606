/-! ===== doCommute is cmB ===== -/
theorem gm_iff {q : Gt} {l : Nat} : (gm q).testBit l = true ↔ l = q.2.1 ∨ (3 ≤ q.1 ∧ l = q.2.2.toNat) := by
  unfold gm
  by_cases h : q.1 < 3
  · rw [if_pos h, Nat.testBit_two_pow]
    simp only [decide_eq_true_eq]
    omega
  · rw [if_neg h, Nat.testBit_or, Nat.testBit_two_pow, Nat.testBit_two_pow]
    simp only [Bool.or_eq_true, decide_eq_true_eq]
    omega
theorem cl_id {q : Gt} (h : idB q = true) (V : Vc) : clW q V = V := by
  simp only [idB, Bool.and_eq_true, decide_eq_true_eq] at h
  funext r
  rw [clW_N, clN, if_pos h.1, h.2]
  split <;> rfl
theorem co_yes {n : Nat} {q r : Gt} (hn : n ≤ 4) (h : vG n q) (h' : vG n r) (hc : cmB q r = true) (W : Vc) : clW r (clW q W) = clW q (clW r W) := by
  by_cases i1 : idB q = true
  · rw [cl_id i1, cl_id i1]
  by_cases i2 : idB r = true
  · rw [cl_id i2, cl_id i2]
  have hq := h.1
  have hr := h'.1
  have la := h.2.1
  have la' := h'.2.1
  have hb := h.2.2.2.2
  have hb' := h'.2.2.2.2
  have G := fun l => gm_iff (q := q) (l := l)
  have G' := fun l => gm_iff (q := r) (l := l)
  have hd := h.d
  have hd' := h'.d
  -- neither takes a line otherwise than the other
  have main : q.1 ≤ 4 → r.1 ≤ 4 → (∀ l, l < 4 → (gm q).testBit l = true → (gm r).testBit l = true → man q l = man r l) → clW r (clW q W) = clW q (clW r W) := by
    intro q4 r4 L
    have haa : q.2.1 = r.2.1 → man q q.2.1 = man r q.2.1 := fun e => L _ (by omega) ((G _).mpr (by omega)) ((G' _).mpr (by omega))
    have hab : 3 ≤ r.1 → q.2.1 = r.2.2.toNat → man q q.2.1 = man r q.2.1 := fun e1 e => L _ (by omega) ((G _).mpr (by omega)) ((G' _).mpr (by omega))
    have hba : 3 ≤ q.1 → q.2.2.toNat = r.2.1 → man q q.2.2.toNat = man r q.2.2.toNat := fun e1 e => L _ (by omega) ((G _).mpr (by omega)) ((G' _).mpr (by omega))
    have hbb : 3 ≤ q.1 → 3 ≤ r.1 → q.2.2.toNat = r.2.2.toNat → man q q.2.2.toNat = man r q.2.2.toNat := fun e1 e2 e => L _ (by have := hb e1; omega) ((G _).mpr (by omega)) ((G' _).mpr (by omega))
    funext x
    rcases Nat.le_total q.1 r.1 with e | e
    · exact (co_le (k := q.1) (k' := r.1) (a := q.2.1) (b := q.2.2.toNat) (a' := r.2.1) (b' := r.2.2.toNat) (t := q.2.2.toNat) (t' := r.2.2.toNat) (x := x) (W := W) e r4 q.2.2 r.2.2 haa hab hba hbb hd hd').symm
    · exact co_le (k := r.1) (k' := q.1) (a := r.2.1) (b := r.2.2.toNat) (a' := q.2.1) (b' := q.2.2.toNat) (t := r.2.2.toNat) (t' := q.2.2.toNat) (x := x) (W := W) e q4 r.2.2 q.2.2 (fun z => (L r.2.1 (by omega) ((G _).mpr (by omega)) ((G' _).mpr (by omega))).symm) (fun z1 z => (L r.2.1 (by omega) ((G _).mpr (by omega)) ((G' _).mpr (by omega))).symm) (fun z1 z => (L r.2.2.toNat (by omega) ((G _).mpr (by omega)) ((G' _).mpr (by omega))).symm) (fun z1 z2 z => (L r.2.2.toNat (by have := hb' z1; omega) ((G _).mpr (by omega)) ((G' _).mpr (by omega))).symm) hd' hd
  unfold cmB at hc
  by_cases hz : gm q &&& gm r = 0
  · have dj : ∀ l, (gm q).testBit l = true → (gm r).testBit l = true → False := fun l l1 l2 => by
      have : (gm q &&& gm r).testBit l = true := by rw [Nat.testBit_and, l1, l2]; rfl
      rw [hz, Nat.zero_testBit] at this; cases this
    by_cases q5 : q.1 = 5
    · funext x
      have := co5 (k := r.1) (a := r.2.1) (b := r.2.2.toNat) (a' := q.2.1) (b' := q.2.2.toNat) (t := r.2.2.toNat) (t' := q.2.2.toNat) (x := x) (W := W) hr (fun e => dj r.2.1 ((G _).mpr (by omega)) ((G' _).mpr (by omega))) (fun e => dj r.2.1 ((G _).mpr (by omega)) ((G' _).mpr (by omega))) (fun e1 e => dj q.2.1 ((G _).mpr (by omega)) ((G' _).mpr (by omega))) (fun e1 e => dj q.2.2.toNat ((G _).mpr (by omega)) ((G' _).mpr (by omega)))
      rw [clW_N q, clW_N r, clW_N q, clW_N r, q5]
      exact this
    · by_cases r5 : r.1 = 5
      · funext x
        have := co5 (k := q.1) (a := q.2.1) (b := q.2.2.toNat) (a' := r.2.1) (b' := r.2.2.toNat) (t := q.2.2.toNat) (t' := r.2.2.toNat) (x := x) (W := W) hq (fun e => dj q.2.1 ((G _).mpr (by omega)) ((G' _).mpr (by omega))) (fun e => dj q.2.1 ((G _).mpr (by omega)) ((G' _).mpr (by omega))) (fun e1 e => dj r.2.1 ((G _).mpr (by omega)) ((G' _).mpr (by omega))) (fun e1 e => dj r.2.2.toNat ((G _).mpr (by omega)) ((G' _).mpr (by omega)))
        rw [clW_N q, clW_N r, clW_N q, clW_N r, r5]
        exact this.symm
      · exact main (by omega) (by omega) (fun l _ l1 l2 => (dj l l1 l2).elim)
  · rw [if_neg (by simp [hz, i1, i2])] at hc
    by_cases h5 : q.1 = 5 ∨ r.1 = 5
    · rw [if_pos h5] at hc
      obtain ⟨q4, r4, hg⟩ := of_decide_eq_true hc
      have e1 := (G' q.2.1).mp (by rw [← hg]; exact (G _).mpr (by omega))
      have e2 := (G' q.2.2.toNat).mp (by rw [← hg]; exact (G _).mpr (by omega))
      have d1 := hd (by omega)
      have d2 := hd' (by omega)
      funext x
      rw [clW_N q, clW_N r, clW_N q, clW_N r]
      generalize q.2.2.toNat = b at *
      generalize r.2.2.toNat = b' at *
      generalize q.2.1 = a at *
      generalize r.2.1 = a' at *
      rcases (show (a = a' ∧ b = b') ∨ (a = b' ∧ b = a') by omega) with ⟨f1, f2⟩ | ⟨f1, f2⟩
      · subst f1 f2
        rcases (show q.1 = 4 ∨ q.1 = 5 by omega) with k1 | k1 <;> rcases (show r.1 = 4 ∨ r.1 = 5 by omega) with k2 | k2 <;> rw [k1, k2]
        · exact (co45 (Ne.symm d1)).symm
        · exact co45 (Ne.symm d1)
      · subst f1 f2
        have s5 : ∀ V : Vc, clN 5 b a a V = clN 5 a b b V := fun V => funext fun y => cl5_s
        rcases (show q.1 = 4 ∨ q.1 = 5 by omega) with k1 | k1 <;> rcases (show r.1 = 4 ∨ r.1 = 5 by omega) with k2 | k2 <;> rw [k1, k2]
        · exfalso; omega
        · rw [s5, s5]; exact (co45 (Ne.symm d1)).symm
        · rw [← s5, ← s5]; exact co45 (Ne.symm d2)
        · rw [s5, s5]
    · rw [if_neg h5] at hc
      refine main (by omega) (by omega) (fun l l4 l1 l2 => ?_)
      have := (fa_iff 4 0).mp hc l (by omega) (by omega)
      simp only [mn1, Bool.or_eq_true, Bool.not_eq_true', decide_eq_true_eq, Nat.testBit_and, l1, l2] at this
      simpa using this
