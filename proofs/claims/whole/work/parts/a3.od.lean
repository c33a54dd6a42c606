/-! ===== times: one gate begins later ===== -/
theorem orr_bit {f : Nat → Nat} {b : Nat} : ∀ n, (orr f n).testBit b = true ↔ ∃ h, h < n ∧ (f h).testBit b = true
  | 0 => by simp [orr]
  | n + 1 => by
    rw [orr, Nat.testBit_or, Bool.or_eq_true, orr_bit n]
    constructor
    · rintro (⟨h, h1, h2⟩ | h)
      · exact ⟨h, by omega, h2⟩
      · exact ⟨n, by omega, h⟩
    · rintro ⟨h, h1, h2⟩
      by_cases e : h = n
      · right; rw [← e]; exact h2
      · left; exact ⟨h, by omega, h2⟩
theorem ah_bit {lo : Bool} {c : List Gt} {g b : Nat} : (ahS lo c g).testBit b = true ↔ ∃ h, h < g ∧ wtB lo (gA c g) (gA c h) = true ∧ (b = h ∨ (ahS lo c h).testBit b = true) := by
  rw [ahS_eq, orr_bit]
  constructor
  · rintro ⟨h, h1, h2⟩
    unfold ahF at h2
    split at h2
    · rename_i w
      rw [Nat.testBit_or, Bool.or_eq_true, Nat.testBit_two_pow, decide_eq_true_eq] at h2
      exact ⟨h, h1, w, h2.imp Eq.symm id⟩
    · rw [Nat.zero_testBit] at h2; cases h2
  · rintro ⟨h, h1, w, h2⟩
    refine ⟨h, h1, ?_⟩
    unfold ahF
    rw [if_pos w, Nat.testBit_or, Bool.or_eq_true, Nat.testBit_two_pow, decide_eq_true_eq]
    exact h2.imp Eq.symm id
theorem ah_lt {lo : Bool} {c : List Gt} {g b : Nat} (h : (ahS lo c g).testBit b = true) : b < g := by
  rcases Nat.lt_or_ge b g with q | q
  · exact q
  · rw [Nat.testBit_lt_two_pow (Nat.lt_of_lt_of_le (ahS_lt lo c g) (Nat.pow_le_pow_right (by omega) q))] at h; cases h
theorem mxx_at {f : Nat → Nat} : ∀ n, mxx f n = 0 ∨ ∃ h, h < n ∧ mxx f n = f h
  | 0 => Or.inl rfl
  | n + 1 => by
    show max (mxx f n) (f n) = 0 ∨ ∃ h, h < n + 1 ∧ max (mxx f n) (f n) = f h
    rcases Nat.le_total (mxx f n) (f n) with q | q
    · right; exact ⟨n, by omega, by omega⟩
    · rcases mxx_at (f := f) n with h | ⟨h, h1, h2⟩
      · left; omega
      · right; exact ⟨h, by omega, by omega⟩
def dl (late : Int) (g : Nat) : Nat := if (g : Int) = late then 1 else 0
def ltF (lo : Bool) (c : List Gt) (late : Int) (g : Nat) (t : Nat → Nat) (h : Nat) : Nat := if (ahS lo c g).testBit h = true then t h + dl late g else 0
/-- when a gate ends, if one begins one later -/
def ltS (lo : Bool) (T : Nat → Nat) (c : List Gt) (late : Int) : Nat → Nat := rec1 (fun t g => max (dl late g) (mxx (ltF lo c late g t) g) + T (gA c g).1)
theorem ltS_eq (lo : Bool) (T : Nat → Nat) (c : List Gt) (late : Int) (g : Nat) : ltS lo T c late g = max (dl late g) (mxx (ltF lo c late g (ltS lo T c late)) g) + T (gA c g).1 :=
  rec1_eq (fun t t' g h => by
    show max _ (mxx _ g) + _ = max _ (mxx _ g) + _
    rw [mxx_congr g (fun h' hh => by unfold ltF; rw [h h' hh])]
    rfl) g
def ltG (lo : Bool) (c : List Gt) (g : Nat) (t : Nat → Nat) (h : Nat) : Nat := if (ahS lo c g).testBit h = true then t h else 0
theorem mx_dl {lo : Bool} {c : List Gt} {late : Int} {g : Nat} {t : Nat → Nat} : ∀ n, max (dl late g) (mxx (ltF lo c late g t) n) = dl late g + mxx (ltG lo c g t) n
  | 0 => by show max (dl late g) 0 = dl late g + 0; omega
  | n + 1 => by
    have ih := mx_dl (lo := lo) (c := c) (late := late) (g := g) (t := t) n
    show max (dl late g) (max (mxx (ltF lo c late g t) n) (ltF lo c late g t n)) = dl late g + max (mxx (ltG lo c g t) n) (ltG lo c g t n)
    unfold ltF ltG at *
    split <;> omega
theorem ltS_e (lo : Bool) (T : Nat → Nat) (c : List Gt) (late : Int) (g : Nat) : ltS lo T c late g = dl late g + mxx (ltG lo c g (ltS lo T c late)) g + T (gA c g).1 := by rw [ltS_eq, mx_dl]
section OD0
variable {lo : Bool} {T : Nat → Nat} {c : List Gt} {late : Int}
theorem lt_ge {g h : Nat} (hb : (ahS lo c h).testBit g = true) : ltS lo T c late g + T (gA c h).1 ≤ ltS lo T c late h := by
  rw [ltS_e lo T c late h]
  have := mxx_ge (f := ltG lo c h (ltS lo T c late)) h g (ah_lt hb)
  rw [ltG, if_pos hb] at this
  omega
/-- nobody is late: as the class reckons -/
theorem lt_en : ∀ g, ltS lo T c (-1) g = enS lo T c g := by
  intro g
  induction g using Nat.strongRecOn with
  | ind g ih =>
    rw [ltS_e]
    have d0 : dl (-1) g = 0 := if_neg (by omega)
    rw [d0, Nat.zero_add]
    show _ = bgS lo T c g + T (gA c g).1
    congr 1
    apply Nat.le_antisymm
    · refine mxx_le g fun h hh => ?_
      unfold ltG
      split
      · rename_i b
        rw [ih h hh]
        -- by those it waits for at once
        have key : ∀ g b, (ahS lo c g).testBit b = true → enS lo T c b ≤ bgS lo T c g := by
          intro g
          induction g using Nat.strongRecOn with
          | ind g ih2 =>
            intro b hb
            obtain ⟨h', h1, w, h2⟩ := ah_bit.mp hb
            have e1 : enS lo T c h' ≤ bgS lo T c g := by
              rw [bgS_eq]
              have := mxx_ge (f := bgF lo T c g (bgS lo T c)) g h' h1
              rw [bgF, if_pos w] at this
              exact this
            rcases h2 with e | e
            · rw [e]; exact e1
            · have := ih2 h' h1 b e
              have : bgS lo T c h' ≤ enS lo T c h' := Nat.le_add_right _ _
              omega
        exact key g h b
      · exact Nat.zero_le _
    · rw [bgS_eq]
      refine mxx_le g fun h hh => ?_
      unfold bgF
      split
      · rename_i w
        have b : (ahS lo c g).testBit h = true := ah_bit.mpr ⟨h, hh, w, Or.inl rfl⟩
        have := mxx_ge (f := ltG lo c g (ltS lo T c (-1))) g h hh
        rw [ltG, if_pos b, ih h hh] at this
        exact this
      · exact Nat.zero_le _
theorem lt_all : mxx (ltS lo T c (-1)) c.length = mxx (enS lo T c) c.length := mxx_congr _ fun g _ => lt_en g
/-- what still runs behind a gate runs behind all ahead of it -/
theorem tl_ah {g h : Nat} (hg : g < c.length) (hb : (ahS lo c g).testBit h = true) : T (gA c g).1 + tlS lo T c g ≤ tlS lo T c h := by
  have dir : ∀ g h, g < c.length → h < g → wtB lo (gA c g) (gA c h) = true → T (gA c g).1 + tlS lo T c g ≤ tlS lo T c h := fun g h hg hh w => by
    rw [tlS_eq (show h < c.length by omega)]
    have := mxx_ge (f := tlG lo T c h) (c.length - 1 - h) (g - (h + 1)) (by omega)
    rw [tlG, show h + 1 + (g - (h + 1)) = g by omega, if_pos w] at this
    omega
  induction g using Nat.strongRecOn with
  | ind g ih =>
    obtain ⟨h', h1, w, h2⟩ := ah_bit.mp hb
    have e1 := dir g h' hg h1 w
    rcases h2 with e | e
    · rw [e]; exact e1
    · have := ih h' h1 (by omega) e
      omega
theorem lt_tl : ∀ k g, g + k = c.length → 0 < k → ltS lo T c late g + tlS lo T c g ≤ mxx (ltS lo T c late) c.length := by
  intro k
  induction k using Nat.strongRecOn with
  | ind k ih =>
    intro g hk h0
    have hg : g < c.length := by omega
    rw [tlS_eq hg]
    rcases mxx_at (f := tlG lo T c g) (c.length - 1 - g) with e | ⟨h, h1, e⟩
    · rw [e]; exact mxx_ge (f := ltS lo T c late) c.length g hg
    · rw [e, tlG]
      split
      · rename_i w
        have b : (ahS lo c (g + 1 + h)).testBit g = true := ah_bit.mpr ⟨g, by omega, w, Or.inl rfl⟩
        have l1 := lt_ge (T := T) (late := late) b
        have l2 := ih (k - (1 + h)) (by omega) (g + 1 + h) (by omega) (by omega)
        omega
      · exact mxx_ge (f := ltS lo T c late) c.length g hg
theorem lt_ug {i : Nat} (hi : i < c.length) : mxx (enS lo T c) c.length < mxx (ltS lo T c (i : Int)) c.length ↔ ugB lo T c i = true := by
  have d1 : dl (i : Int) i = 1 := if_pos rfl
  have dn : ∀ g, g ≠ i → dl (i : Int) g = 0 := fun g hg => if_neg (by omega)
  have same : ∀ g, g < i → ltS lo T c (i : Int) g = enS lo T c g := by
    intro g
    induction g using Nat.strongRecOn with
    | ind g ih =>
      intro hg
      rw [← lt_en, ltS_e, ltS_e lo T c (-1), dn g (by omega), show dl (-1) g = 0 from if_neg (by omega)]
      congr 2
      refine mxx_congr g fun h hh => ?_
      unfold ltG
      rw [ih h hh (by omega), lt_en]
  have ei : ltS lo T c (i : Int) i = enS lo T c i + 1 := by
    rw [← lt_en, ltS_e, ltS_e lo T c (-1), d1, show dl (-1) i = 0 from if_neg (by omega)]
    rw [mxx_congr (f' := ltG lo c i (ltS lo T c (-1))) i (fun h hh => by unfold ltG; rw [same h hh, lt_en])]
    omega
  have B0 : ∀ g, g < c.length → enS lo T c g + tlS lo T c g ≤ mxx (enS lo T c) c.length := fun g hg => by
    have := lt_tl (lo := lo) (T := T) (c := c) (late := -1) (c.length - g) g (by omega) (by omega)
    rw [lt_all, lt_en] at this
    exact this
  unfold ugB
  rw [decide_eq_true_eq]
  constructor
  · intro h
    rcases Nat.lt_or_ge (enS lo T c i + tlS lo T c i) (mxx (enS lo T c) c.length) with q | q
    · exfalso
      have C : ∀ g, g < c.length → ltS lo T c (i : Int) g + tlS lo T c g ≤ mxx (enS lo T c) c.length := by
        intro g
        induction g using Nat.strongRecOn with
        | ind g ih =>
          intro hg
          by_cases e : g = i
          · rw [e, ei]; omega
          · rw [ltS_e, dn g e, Nat.zero_add]
            rcases mxx_at (f := ltG lo c g (ltS lo T c (i : Int))) g with e2 | ⟨h', h1, e2⟩
            · rw [e2]
              have := B0 g hg
              have : T (gA c g).1 ≤ enS lo T c g := Nat.le_add_left _ _
              omega
            · rw [e2, ltG]
              split
              · rename_i b
                have := ih h' h1 (by omega)
                have := tl_ah (T := T) hg b
                omega
              · have := B0 g hg
                have : T (gA c g).1 ≤ enS lo T c g := Nat.le_add_left _ _
                omega
      have : mxx (ltS lo T c (i : Int)) c.length ≤ mxx (enS lo T c) c.length := mxx_le _ fun g hg => by have := C g hg; omega
      omega
    · have := B0 i hi; omega
  · intro h
    have := lt_tl (lo := lo) (T := T) (c := c) (late := (i : Int)) (c.length - i) i (by omega) (by omega)
    rw [ei] at this
    omega
theorem ltS_le (hT : ∀ k, k ≤ 5 → T k ≤ 20) {n : Nat} (hv : okC n c) : ∀ g, g < c.length → ltS lo T c late g ≤ 21 * g + 21 := by
  intro g
  induction g using Nat.strongRecOn with
  | ind g ih =>
    intro hg
    have k := hT _ (hv.at hg).1
    rw [ltS_e]
    have d : dl late g ≤ 1 := by unfold dl; split <;> omega
    have : mxx (ltG lo c g (ltS lo T c late)) g ≤ 21 * g := mxx_le g fun h hh => by
      unfold ltG
      split
      · have := ih h hh (by omega); omega
      · omega
    omega
end OD0

