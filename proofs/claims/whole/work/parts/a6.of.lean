/-! ===== the search with what is left out ===== -/
/-- a gate that is not done is too far for l swaps -/
def tfB (F : Nat → Nat → Nat) (c : List Gt) (P : Nat → Nat) (D l : Nat) : Bool := !fa (fun g => D.testBit g || !decide (3 ≤ (gA c g).1) || decide (F (P (gA c g).2.1) (P (gA c g).2.2.toNat) ≤ l + 1)) (c.length - 0) 0
/-- no line stands at the places of an edge -/
def nlB (n : Nat) (P : Nat → Nat) (q : Ed) : Bool := fa (fun l => !decide (P l = q.1) && !decide (P l = q.2)) (n - 0) 0
/-- of a swap behind which nothing was done: it -/
def lsI (D D' e : Nat) : Int := if D' = D then (e : Int) else -1
def pB (F : Nat → Nat → Nat) (n : Nat) (c : List Gt) (E : List Ed) (A : Nat → Nat) : Nat → (Nat → Nat) → Nat → Int → Bool
  | 0, _, D, _ => decide (D = 2 ^ c.length - 1)
  | l + 1, P, D, last => decide (D = 2 ^ c.length - 1) || (!tfB F c P D (l + 1) && !fa (fun e => decide ((e : Int) = last) || nlB n P (eA E e) || !pB F n c E A l (swP (eA E e).1 (eA E e).2 P) (daD F c A (swP (eA E e).1 (eA E e).2 P) D c.length) (lsI D (daD F c A (swP (eA E e).1 (eA E e).2 P) D c.length) e)) (E.length - 0) 0)
section PB
variable {n m : Nat} {c : List Gt} {E : List Ed} {A : Nat → Nat}
theorem fa_no {f : Nat → Bool} {k i : Nat} : (!fa f k i) = true ↔ ∃ j, i ≤ j ∧ j < i + k ∧ f j = false := by
  rw [Bool.not_eq_true']
  constructor
  · intro h
    have h2 : ¬ ∀ j, i ≤ j → j < i + k → f j = true := fun q => by
      rw [(fa_iff k i).mpr q] at h; cases h
    have h3 : ∃ j, ¬ (i ≤ j → j < i + k → f j = true) := by
      rcases Classical.em (∃ j, ¬ (i ≤ j → j < i + k → f j = true)) with q | q
      · exact q
      · exact absurd (fun j => Classical.not_not.mp (fun z => q ⟨j, z⟩)) h2
    obtain ⟨j, hj⟩ := h3
    have a : i ≤ j := Classical.not_not.mp fun z => hj fun y => absurd y z
    have b : j < i + k := Classical.not_not.mp fun z => hj fun _ y => absurd y z
    refine ⟨j, a, b, ?_⟩
    cases q : f j with
    | false => rfl
    | true => exact absurd (fun _ _ => q) hj
  · rintro ⟨j, h1, h2, h3⟩
    cases q : fa f k i with
    | false => rfl
    | true => rw [(fa_iff k i).mp q j h1 h2] at h3; cases h3
/-- what it finds is there -/
theorem pB_ca (hA : ∀ g, g < c.length → A g < 2 ^ g) : ∀ (l : Nat) (P : Nat → Nat) (D : Nat) (last : Int), daD (farE E) c A P D c.length = D → pB (farE E) n c E A l P D last = true → caB (farE E) c E A l P D = true := by
  intro l
  induction l with
  | zero =>
    intro P D last hcl h
    rw [caB, hcl]; exact h
  | succ l ih =>
    intro P D last hcl h
    rw [pB, Bool.or_eq_true, Bool.and_eq_true] at h
    rw [caB, hcl, Bool.or_eq_true]
    rcases h with h | ⟨_, h⟩
    · exact Or.inl h
    · right
      obtain ⟨e, _, h1, h2⟩ := fa_no.mp h
      rw [Bool.or_eq_false_iff] at h2
      have h3 : pB (farE E) n c E A l (swP (eA E e).1 (eA E e).2 P) (daD (farE E) c A (swP (eA E e).1 (eA E e).2 P) D c.length) (lsI D (daD (farE E) c A (swP (eA E e).1 (eA E e).2 P) D c.length) e) = true := by simpa using h2.2
      have h4 := ih _ _ _ (daD_id hA) h3
      rw [caB_da hA] at h4
      exact (exB_iff _).mpr ⟨e, by omega, h4⟩
/-- what is there is found -/
theorem ca_pB (hv : okC n c) (hvE : okE m E) (hm : m ≤ 5) (hA : ∀ g, g < c.length → A g < 2 ^ g) : ∀ (k l : Nat) (P : Nat → Nat) (D : Nat) (last : Int), k ≤ l → okP n m P → D < 2 ^ c.length → daD (farE E) c A P D c.length = D → caB (farE E) c E A k P D = true → (last ≠ -1 → ∃ e : Nat, last = (e : Int) ∧ e < E.length ∧ (0 < k → caB (farE E) c E A (k - 1) (swP (eA E e).1 (eA E e).2 P) D = false)) → pB (farE E) n c E A l P D last = true := by
  intro k
  induction k with
  | zero =>
    intro l P D last hl hP hD hcl h hlast
    rw [caB, hcl] at h
    cases l with
    | zero => exact h
    | succ l => rw [pB, h]; rfl
  | succ k ih =>
    intro l P D last hl hP hD hcl h hlast
    by_cases hk : caB (farE E) c E A k P D = true
    · refine ih l P D last (by omega) hP hD hcl hk fun q => ?_
      obtain ⟨e, e1, e2, e3⟩ := hlast q
      refine ⟨e, e1, e2, fun h0 => ?_⟩
      have e4 := e3 (by omega)
      cases q2 : caB (farE E) c E A (k - 1) (swP (eA E e).1 (eA E e).2 P) D with
      | false => rfl
      | true =>
        have := caB_le (show k - 1 ≤ k + 1 - 1 by omega) q2
        rw [this] at e4; cases e4
    · obtain ⟨l, rfl⟩ : ∃ y, l = y + 1 := ⟨l - 1, by omega⟩
      rw [pB]
      by_cases hf : D = 2 ^ c.length - 1
      · rw [decide_eq_true hf]; rfl
      · rw [decide_eq_false hf, Bool.false_or, Bool.and_eq_true]
        have h2 := h
        rw [caB, hcl, decide_eq_false hf, Bool.false_or] at h2
        obtain ⟨e, he, hc2⟩ := (exB_iff _).mp h2
        have hke := hvE.at he
        have hne : (eA E e).1 ≠ (eA E e).2 := by omega
        constructor
        · rw [Bool.not_eq_true']
          unfold tfB
          rw [Bool.not_eq_false']
          refine (fa_iff _ _).mpr fun g _ hg => ?_
          by_cases b : D.testBit g = true
          · rw [b]; rfl
          · by_cases t : 3 ≤ (gA c g).1
            · have := caB_far hv hvE hm (show g < c.length by omega) t (l + 1) P D hP hD (caB_le hl h) (by simpa using b)
              rw [decide_eq_true this, Bool.or_true]
            · rw [decide_eq_false t]; simp
        · refine fa_no.mpr ⟨e, by omega, by omega, ?_⟩
          have i1 : ¬ (e : Int) = last := fun q => by
            obtain ⟨e', e1, e2, e3⟩ := hlast (by omega)
            have e4 := e3 (by omega)
            have : e' = e := by omega
            subst this
            rw [show k + 1 - 1 = k by omega, hc2] at e4
            cases e4
          have i2 : nlB n P (eA E e) = false := by
            cases q : nlB n P (eA E e) with
            | false => rfl
            | true =>
              exfalso
              have same : ∀ x, x < n → swP (eA E e).1 (eA E e).2 P x = P x := fun x hx => by
                have := (fa_iff _ _).mp q x (by omega) (by omega)
                simp only [Bool.and_eq_true, Bool.not_eq_true', decide_eq_false_iff_not] at this
                unfold swP
                rw [if_neg this.1, if_neg this.2]
              rw [caB_cg hv k _ P D same] at hc2
              exact hk hc2
          have hP2 : okP n m (swP (eA E e).1 (eA E e).2 P) := hP.sw (by omega) (by omega)
          rw [decide_eq_false i1, i2, Bool.false_or, Bool.false_or, Bool.not_eq_false']
          refine ih l _ _ _ (by omega) hP2 (daD_lt hD _ (Nat.le_refl _)) (daD_id hA) (by rw [caB_da hA]; exact hc2) fun q => ?_
          unfold lsI at q ⊢
          by_cases g : daD (farE E) c A (swP (eA E e).1 (eA E e).2 P) D c.length = D
          · rw [if_pos g]
            refine ⟨e, rfl, he, fun h0 => ?_⟩
            rw [swP_swP hne, g]
            cases q2 : caB (farE E) c E A (k - 1) P D with
            | false => rfl
            | true => exact absurd (caB_le (show k - 1 ≤ k by omega) q2) hk
          · rw [if_neg g] at q
            exact absurd rfl q
theorem pB_eq (hv : okC n c) (hvE : okE m E) (hm : m ≤ 5) (hA : ∀ g, g < c.length → A g < 2 ^ g) {l : Nat} {P : Nat → Nat} {D : Nat} (hP : okP n m P) (hD : D < 2 ^ c.length) (hcl : daD (farE E) c A P D c.length = D) : pB (farE E) n c E A l P D (-1) = caB (farE E) c E A l P D := by
  rw [Bool.eq_iff_iff]
  exact ⟨fun h => pB_ca hA l P D (-1) hcl h, fun h => ca_pB hv hvE hm hA l l P D (-1) (Nat.le_refl _) hP hD hcl h (fun q => absurd rfl q)⟩
end PB

