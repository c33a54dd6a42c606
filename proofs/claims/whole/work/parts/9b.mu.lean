/-! ===== doCommute is what the class asks ===== -/
theorem gN_of {n : Nat} {q : Gt} (h : vG n q) : ∃ v, v ∈ vsK n q.1 ∧ gN q.1 q.2.1 v = q ∧ okN n q.1 q.2.1 v = true := by
  obtain ⟨k, a, b⟩ := q
  obtain ⟨h1, h2, h3, h4, h5⟩ := h
  simp only at h1 h2 h3 h4 h5 ⊢
  rcases (show k = 0 ∨ (k = 1 ∨ k = 2) ∨ 3 ≤ k by omega) with e | e | e
  · subst e
    obtain ⟨c1, c2⟩ := h3 rfl
    refine ⟨b.toNat, by simp [vsK]; omega, ?_, by simp [okN, h2]⟩
    have e2 : ((b.toNat : Nat) : Int) = b := by omega
    simp [gN, e2]
  · have hb := h4 e
    refine ⟨0, ?_, ?_, ?_⟩
    · rw [vsK, if_neg (by omega), if_pos (by omega)]; simp
    · rw [gN, if_pos e, hb]
    · simp [okN, h2, show k < 3 by omega]
  · obtain ⟨c1, c2, c3⟩ := h5 e
    have e2 : ((b.toNat : Nat) : Int) = b := by omega
    refine ⟨b.toNat, ?_, ?_, ?_⟩
    · rw [vsK, if_neg (by omega), if_neg (by omega)]; simp; omega
    · rw [gN, if_neg (by omega), e2]
    · simp [okN, h2, show ¬ k < 3 by omega]; omega
theorem nc_of {n : Nat} {q r : Gt} (hn : n ≤ 4) (h : vG n q) (h' : vG n r) (hc : ¬ cmB q r = true) : ¬ coP n q r := by
  have hK : ncK n = true := by
    have := h.2.1
    rcases (show n = 1 ∨ n = 2 ∨ n = 3 ∨ n = 4 by omega) with e | e | e | e
    · rw [e]; exact nc1
    · rw [e]; exact nc2
    · rw [e]; exact nc3
    · rw [e]; exact nc4
  obtain ⟨v, v1, v2, v3⟩ := gN_of h
  obtain ⟨w, w1, w2, w3⟩ := gN_of h'
  have q5 := h.1
  have r5 := h'.1
  unfold ncK at hK
  have k1 := List.all_eq_true.mp (List.all_eq_true.mp hK q.1 (List.mem_range.mpr (by omega))) r.1 (List.mem_range.mpr (by omega))
  unfold ncA at k1
  have k2 := List.all_eq_true.mp (List.all_eq_true.mp (List.all_eq_true.mp (List.all_eq_true.mp k1 q.2.1 (List.mem_range.mpr h.2.1)) v v1) r.2.1 (List.mem_range.mpr h'.2.1)) w w1
  rw [ncB, v2, w2, v3, w3, Bool.eq_false_iff.mpr hc] at k2
  have k3 : nwB n q r = true := by simpa using k2
  unfold nwB at k3
  obtain ⟨s, s1, s2⟩ := List.any_eq_true.mp k3
  obtain ⟨x, x1, x2⟩ := List.any_eq_true.mp s2
  intro hP
  rw [hP s (List.mem_range.mp s1)] at x2
  simp at x2

