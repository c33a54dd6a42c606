/-! ===== what commutes, what is ahead: as the law asks ===== -/
theorem and_c (q r : Gt) : gm q &&& gm r = gm r &&& gm q := Nat.and_comm _ _
theorem mn1_s (q r : Gt) (l : Nat) : mn1 q r l = mn1 r q l := by
  unfold mn1
  rw [and_c]
  congr 1
  by_cases h : man q l = man r l
  · rw [decide_eq_true h, decide_eq_true h.symm]
  · rw [decide_eq_false h, decide_eq_false (fun z => h z.symm)]
theorem cm_s (q r : Gt) : cmB q r = cmB r q := by
  unfold cmB
  rw [and_c q r]
  by_cases h1 : gm r &&& gm q = 0 ∨ idB q = true ∨ idB r = true
  · rw [if_pos h1, if_pos (h1.imp id Or.symm)]
  · have h1' : ¬ (gm r &&& gm q = 0 ∨ idB r = true ∨ idB q = true) := fun z => h1 (z.imp id Or.symm)
    rw [if_neg h1, if_neg h1']
    by_cases h2 : q.1 = 5 ∨ r.1 = 5
    · rw [if_pos h2, if_pos h2.symm]
      by_cases h3 : 4 ≤ q.1 ∧ 4 ≤ r.1 ∧ gm q = gm r
      · rw [decide_eq_true h3, decide_eq_true ⟨h3.2.1, h3.1, h3.2.2.symm⟩]
      · rw [decide_eq_false h3, decide_eq_false (fun z => h3 ⟨z.2.1, z.1, z.2.2.symm⟩)]
    · rw [if_neg h2, if_neg (fun z => h2 z.symm), show mn1 q r = mn1 r q from funext fun l => mn1_s q r l]
theorem cm_0 {q r : Gt} (h : gm q &&& gm r = 0) : cmB q r = true := by
  unfold cmB
  rw [if_pos (Or.inl h)]
theorem cm_i {q r : Gt} (h : idB q = true) : cmB q r = true := by
  unfold cmB
  rw [if_pos (Or.inr (Or.inl h))]
theorem cm_man {q r : Gt} (h5 : q.1 ≠ 5) (r5 : r.1 ≠ 5) (hm : ∀ l, l < 4 → man q l = man r l) : cmB q r = true := by
  unfold cmB
  by_cases h1 : gm q &&& gm r = 0 ∨ idB q = true ∨ idB r = true
  · rw [if_pos h1]
  · rw [if_neg h1, if_neg (by omega)]
    refine (fa_iff 4 0).mpr fun l _ h => ?_
    unfold mn1
    rw [decide_eq_true (hm l (by omega)), Bool.or_true]
theorem cm_q {q : Gt} (hq : q.1 ≤ 5) : cmB q q = true := by
  by_cases h5 : q.1 = 5
  · unfold cmB
    split
    · rfl
    · rw [if_pos (Or.inl h5)]
      exact decide_eq_true ⟨by omega, by omega, rfl⟩
  · exact cm_man h5 h5 (fun _ _ => rfl)
theorem cm_04 {q r : Gt} (h : q.1 = 0 ∨ q.1 = 4) (h' : r.1 = 0 ∨ r.1 = 4) : cmB q r = true := by
  have m : ∀ {x : Gt} (l : Nat), x.1 = 0 ∨ x.1 = 4 → man x l = 4 := fun {x} l hx => by
    unfold man
    rcases hx with hx | hx
    · rw [if_pos hx]
    · rw [if_neg (by omega), if_pos hx]
  exact cm_man (by omega) (by omega) (fun l _ => by rw [m l h, m l h'])
theorem cm_20 {n : Nat} (hn : n ≤ 4) {q r : Gt} (hq : vG n q) (h : q.1 = 2) (h' : r.1 = 0) (hk : r.2.2 ≠ 0) (hg : gm q &&& gm r ≠ 0) : cmB q r = false := by
  have i1 : ¬ idB q = true := by simp [idB, h]
  have i2 : ¬ idB r = true := by simp [idB, hk]
  unfold cmB
  rw [if_neg (by simp [hg, i1, i2]), if_neg (by omega)]
  have e1 : gm q = 2 ^ q.2.1 := if_pos (by omega)
  have e2 : gm r = 2 ^ r.2.1 := if_pos (by omega)
  have hl : q.2.1 = r.2.1 := by
    apply Classical.byContradiction
    intro hne
    apply hg
    rw [e1, e2]
    apply Nat.eq_of_testBit_eq
    intro i
    rw [Nat.testBit_and, Nat.testBit_two_pow, Nat.testBit_two_pow, Nat.zero_testBit]
    by_cases a1 : q.2.1 = i
    · by_cases a2 : r.2.1 = i
      · exact absurd (a1.trans a2.symm) hne
      · simp [a2]
    · simp [a1]
  have ha : q.2.1 < 4 := by have := hq.2.1; omega
  apply Bool.eq_false_iff.mpr
  intro hf
  have := (fa_iff 4 0).mp hf q.2.1 (by omega) (by omega)
  unfold mn1 at this
  have tb : (gm q &&& gm r).testBit q.2.1 = true := by
    rw [e1, e2, ← hl, Nat.testBit_and, Nat.testBit_two_pow]; simp
  have m1 : man q q.2.1 = 2 := by unfold man; rw [if_neg (by omega), if_neg (by omega), if_neg (by omega), if_pos h]
  have m2 : man r q.2.1 = 4 := by unfold man; rw [if_pos h']
  rw [tb, m1, m2] at this
  simp at this
theorem orr_bit (f : Nat → Nat) (i : Nat) : ∀ n, (orr f n).testBit i = true ↔ ∃ h, h < n ∧ (f h).testBit i = true
  | 0 => by simp [orr]
  | n + 1 => by
    rw [orr, Nat.testBit_or, Bool.or_eq_true, orr_bit f i n]
    constructor
    · rintro (⟨h, h1, h2⟩ | h)
      · exact ⟨h, by omega, h2⟩
      · exact ⟨n, by omega, h⟩
    · rintro ⟨h, h1, h2⟩
      by_cases e : h = n
      · subst e; exact Or.inr h2
      · exact Or.inl ⟨h, by omega, h2⟩
/-- what is ahead loosely is ahead strictly -/
theorem ah_sub (c : List Gt) (i : Nat) : ∀ g, (ahS true c g).testBit i = true → (ahS false c g).testBit i = true := by
  intro g
  induction g using Nat.strongRecOn with
  | ind g ih =>
    intro h
    rw [ahS_eq] at h ⊢
    obtain ⟨k, k1, k2⟩ := (orr_bit _ i g).mp h
    refine (orr_bit _ i g).mpr ⟨k, k1, ?_⟩
    unfold ahF at k2 ⊢
    by_cases hw : wtB true (gA c g) (gA c k) = true
    · rw [if_pos hw] at k2
      have hw' : wtB false (gA c g) (gA c k) = true := by
        unfold wtB at hw ⊢
        rw [Bool.and_eq_true] at hw
        rw [hw.1]; rfl
      rw [if_pos hw']
      rw [Nat.testBit_or, Bool.or_eq_true] at k2 ⊢
      exact k2.imp id (ih k k1)
    · rw [if_neg hw, Nat.zero_testBit] at k2
      cases k2
theorem mxx_mono {f f' : Nat → Nat} : ∀ n, (∀ h, h < n → f h ≤ f' h) → mxx f n ≤ mxx f' n
  | 0, _ => Nat.le_refl _
  | n + 1, h => by
    have h1 := mxx_mono n (fun x hx => h x (by omega))
    have h2 := h n (by omega)
    rw [mxx, mxx]
    omega
theorem bg_mono (T : Nat → Nat) (c : List Gt) : ∀ g, bgS true T c g ≤ bgS false T c g := by
  intro g
  induction g using Nat.strongRecOn with
  | ind g ih =>
    rw [bgS_eq, bgS_eq]
    refine mxx_mono g (fun h hh => ?_)
    unfold bgF
    by_cases hw : wtB true (gA c g) (gA c h) = true
    · have hw' : wtB false (gA c g) (gA c h) = true := by
        unfold wtB at hw ⊢
        rw [Bool.and_eq_true] at hw
        rw [hw.1]; rfl
      rw [if_pos hw, if_pos hw']
      have := ih h hh
      omega
    · rw [if_neg hw]; exact Nat.zero_le _
theorem en_mono (T : Nat → Nat) (c : List Gt) (n : Nat) : mxx (enS true T c) n ≤ mxx (enS false T c) n := mxx_mono n (fun g _ => Nat.add_le_add_right (bg_mono T c g) _)
