/-! ===== the search, plainly ===== -/
def exB (f : Nat → Bool) : Nat → Bool
  | 0 => false
  | n + 1 => exB f n || f n
theorem exB_iff {f : Nat → Bool} : ∀ n, exB f n = true ↔ ∃ i, i < n ∧ f i = true
  | 0 => by simp [exB]
  | n + 1 => by
    rw [exB, Bool.or_eq_true, exB_iff n]
    constructor
    · rintro (⟨i, h1, h2⟩ | h)
      · exact ⟨i, by omega, h2⟩
      · exact ⟨n, by omega, h⟩
    · rintro ⟨i, h1, h2⟩
      by_cases e : i = n
      · subst e; exact Or.inr h2
      · exact Or.inl ⟨i, by omega, h2⟩
theorem exB_congr {f g : Nat → Bool} : ∀ n, (∀ i, i < n → f i = g i) → exB f n = exB g n
  | 0, _ => rfl
  | n + 1, h => by rw [exB, exB, exB_congr n (fun i hi => h i (by omega)), h n (by omega)]
/-- all can be done from lines at P with D done, by l swaps at most -/
def caB (F : Nat → Nat → Nat) (c : List Gt) (E : List Ed) (A : Nat → Nat) : Nat → (Nat → Nat) → Nat → Bool
  | 0, P, D => decide (daD F c A P D c.length = 2 ^ c.length - 1)
  | l + 1, P, D => decide (daD F c A P D c.length = 2 ^ c.length - 1) || exB (fun e => caB F c E A l (swP (eA E e).1 (eA E e).2 P) (daD F c A P D c.length)) E.length
section SRC
variable {c : List Gt} {A P P' : Nat → Nat} {D n m : Nat} {F : Nat → Nat → Nat} {E : List Ed}
theorem daD_mono (g : Nat) : ∀ k i, (daD F c A P D g).testBit i = true → (daD F c A P D (g + k)).testBit i = true
  | 0, i, h => h
  | k + 1, i, h => by
    have ih := daD_mono g k i h
    rw [← Nat.add_assoc, daD]
    split
    · rw [Nat.testBit_or, ih]; rfl
    · exact ih
/-- what is done by a pass was open and fitted -/
theorem daD_new : ∀ k i, (daD F c A P D k).testBit i = true → D.testBit i = false → i < k ∧ fiB F P (gA c i) = true
  | 0, i, h, h2 => by rw [daD, h2] at h; cases h
  | k + 1, i, h, h2 => by
    rw [daD] at h
    by_cases hd : dbB F c A P (daD F c A P D k) k = true
    · rw [if_pos hd, Nat.testBit_or, Nat.testBit_two_pow] at h
      by_cases e : k = i
      · subst e
        unfold dbB at hd
        rw [Bool.and_eq_true] at hd
        exact ⟨by omega, hd.2⟩
      · simp [e] at h
        have := daD_new k i h h2
        exact ⟨by omega, this.2⟩
    · rw [if_neg hd] at h
      have := daD_new k i h h2
      exact ⟨by omega, this.2⟩
/-- a gate that is not done by a pass cannot be done behind it -/
theorem daD_shut (hA : ∀ g, g < c.length → A g < 2 ^ g) {g : Nat} (hg : g < c.length) : dbB F c A P (daD F c A P D c.length) g = false := by
  cases h : dbB F c A P (daD F c A P D c.length) g with
  | false => rfl
  | true =>
    unfold dbB at h
    rw [Bool.and_eq_true] at h
    have := (op_two hA c.length (Nat.le_refl _) g hg h.1).2
    rw [this] at h
    cases h.2
theorem daD_same {D' : Nat} : ∀ k, (∀ g, g < k → dbB F c A P D' g = false) → daD F c A P D' k = D'
  | 0, _ => rfl
  | k + 1, h => by
    have ih := daD_same k (fun g hg => h g (by omega))
    rw [daD, ih, h k (by omega)]
    rfl
theorem daD_id (hA : ∀ g, g < c.length → A g < 2 ^ g) : daD F c A P (daD F c A P D c.length) c.length = daD F c A P D c.length := daD_same _ (fun _ hg => daD_shut hA hg)
theorem caB_da (hA : ∀ g, g < c.length → A g < 2 ^ g) : ∀ l, caB F c E A l P (daD F c A P D c.length) = caB F c E A l P D
  | 0 => by rw [caB, caB, daD_id hA]
  | l + 1 => by rw [caB, caB, daD_id hA]
theorem caB_up (l : Nat) : ∀ (P : Nat → Nat) (D : Nat), caB F c E A l P D = true → caB F c E A (l + 1) P D = true := by
  induction l with
  | zero => intro P D h; rw [caB] at h; rw [caB, h]; rfl
  | succ l ih =>
    intro P D h
    rw [caB, Bool.or_eq_true] at h
    rw [caB, Bool.or_eq_true]
    rcases h with h | h
    · exact Or.inl h
    · obtain ⟨e, h1, h2⟩ := (exB_iff _).mp h
      exact Or.inr ((exB_iff _).mpr ⟨e, h1, ih _ _ h2⟩)
theorem caB_le {l l' : Nat} (h : l ≤ l') {P : Nat → Nat} {D : Nat} (hc : caB F c E A l P D = true) : caB F c E A l' P D = true := by
  induction h with
  | refl => exact hc
  | step _ ih => exact caB_up _ _ _ ih
/-- lines beyond n don't count -/
theorem fiB_cg {q : Gt} (hq : vG n q) (h : ∀ x, x < n → P x = P' x) : fiB F P q = fiB F P' q := by
  unfold fiB
  by_cases h3 : 3 ≤ q.1
  · have h5 := hq.2.2.2.2 h3
    rw [h _ hq.2.1, h q.2.2.toNat (by omega)]
  · simp [h3]
theorem daD_cg (hv : okC n c) (h : ∀ x, x < n → P x = P' x) : ∀ k, k ≤ c.length → daD F c A P D k = daD F c A P' D k
  | 0, _ => rfl
  | k + 1, hk => by
    have ih := daD_cg hv h k (by omega)
    rw [daD, daD, ih]
    unfold dbB
    rw [fiB_cg (hv.at (show k < c.length by omega)) h]
theorem swP_cg {p q : Nat} (h : ∀ x, x < n → P x = P' x) : ∀ x, x < n → swP p q P x = swP p q P' x := by
  intro x hx
  unfold swP
  rw [h x hx]
theorem caB_cg (hv : okC n c) (l : Nat) : ∀ (P P' : Nat → Nat) (D : Nat), (∀ x, x < n → P x = P' x) → caB F c E A l P D = caB F c E A l P' D := by
  induction l with
  | zero => intro P P' D h; rw [caB, caB, daD_cg hv h _ (Nat.le_refl _)]
  | succ l ih =>
    intro P P' D h
    rw [caB, caB, daD_cg hv h _ (Nat.le_refl _)]
    rw [exB_congr E.length (fun e _ => ih _ _ _ (swP_cg h))]
/-- a gate of two lines that is not done lies no farther than the swaps left and one -/
theorem caB_far (hv : okC n c) (hvE : okE m E) (hm : m ≤ 5) {g : Nat} (hg : g < c.length) (h3 : 3 ≤ (gA c g).1) (l : Nat) : ∀ (P : Nat → Nat) (D : Nat), okP n m P → D < 2 ^ c.length → caB (farE E) c E A l P D = true → D.testBit g = false → farE E (P (gA c g).2.1) (P (gA c g).2.2.toNat) ≤ l + 1 := by
  have v := hv.at hg
  have v5 := v.2.2.2.2 h3
  have full : (2 ^ c.length - 1).testBit g = true := by rw [Nat.testBit_two_pow_sub_one]; simpa using hg
  have one : ∀ {P : Nat → Nat} {D : Nat}, (daD (farE E) c A P D c.length).testBit g = true → D.testBit g = false → farE E (P (gA c g).2.1) (P (gA c g).2.2.toNat) = 1 := by
    intro P D h1 h2
    have := (daD_new c.length g h1 h2).2
    unfold fiB at this
    simpa [h3] using this
  induction l with
  | zero =>
    intro P D hP hD h hb
    rw [caB, decide_eq_true_eq] at h
    have := one (by rw [h]; exact full) hb
    omega
  | succ l ih =>
    intro P D hP hD h hb
    rw [caB, Bool.or_eq_true] at h
    cases hdb : (daD (farE E) c A P D c.length).testBit g with
    | true =>
      have := one hdb hb
      omega
    | false =>
      rcases h with h | h
      · rw [decide_eq_true_eq] at h
        rw [h, full] at hdb
        cases hdb
      · obtain ⟨e, h1, h2⟩ := (exB_iff _).mp h
        have h5 := hvE.at h1
        have i1 := ih _ _ (hP.sw (p := (eA E e).1) (q := (eA E e).2) (by omega) (by omega)) (daD_lt hD _ (Nat.le_refl _)) h2 hdb
        have i2 := far_sw (x := P (gA c g).2.1) (y := P (gA c g).2.2.toNat) hvE hm h1 (by have := hP.1 _ v.2.1; omega) (by have := hP.1 (gA c g).2.2.toNat (by omega); omega)
        unfold swP at i1
        omega
end SRC

