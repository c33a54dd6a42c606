/-! ===== words for proofs in M ===== -/
theorem kl_I (x : Int) : kl (some (.inl x)) = some (.inl x) := rfl
theorem kl_R (x : Nat) : kl (some (.inr (.inr x))) = some (.inr (.inr x)) := rfl
theorem kl_L (x : Int) : kl (some (.inr (.inl x))) = none := rfl
theorem kl_N : kl none = none := rfl
theorem oSm (v : MV) (st : List MV) : (some v).toList ++ st = v :: st := rfl
theorem oNn (st : List MV) : (none : Option MV).toList ++ st = st := rfl
theorem wi_id {z : Int} (h1 : -2147483648 ≤ z) (h2 : z < 2147483648) : wi z = z := Int32.toInt_ofInt_of_le (by simpa using h1) (by simpa using h2)
theorem wl_id {z : Int} (h1 : -9223372036854775808 ≤ z) (h2 : z < 9223372036854775808) : wl z = z := Int64.toInt_ofInt_of_le (by simpa using h1) (by simpa using h2)
theorem wi_lo (z : Int) : -2147483648 ≤ wi z := by
  have := Int32.le_toInt (Int32.ofInt z)
  simpa [wi] using this
theorem wi_hi (z : Int) : wi z < 2147483648 := by
  have := Int32.toInt_lt (Int32.ofInt z)
  simpa [wi] using this
theorem wi_wi (z : Int) : wi (wi z) = wi z := wi_id (wi_lo z) (wi_hi z)
theorem for_up {α : Type} (F : Nat → α) (n : Nat) (h : ∀ i, i < n → F i = F (i + 1)) : ∀ i, i ≤ n → F i = F n := by
  intro i hi
  obtain ⟨k, hk⟩ : ∃ k, n = i + k := ⟨n - i, by omega⟩
  induction k generalizing i with
  | zero => rw [show n = i by omega]
  | succ k ih => exact (h i (by omega)).trans (ih (i + 1) (by omega) (by omega))
theorem for_dn {α : Type} (F G : Nat → α) (n : Nat) (hn : F n = G n) (h : ∀ i, i < n → F (i + 1) = G (i + 1) → F i = G i) : ∀ i, i ≤ n → F i = G i := by
  intro i hi
  obtain ⟨k, hk⟩ : ∃ k, n = i + k := ⟨n - i, by omega⟩
  induction k generalizing i with
  | zero => have : i = n := by omega
            rw [this]; exact hn
  | succ k ih => exact h i (by omega) (ih (i + 1) (by omega) (by omega))
theorem for_P (n : Nat) (P : Nat → Prop) (hn : P n) (h : ∀ i, i < n → P (i + 1) → P i) : ∀ i, i ≤ n → P i := by
  intro i hi
  obtain ⟨k, hk⟩ : ∃ k, n = i + k := ⟨n - i, by omega⟩
  induction k generalizing i with
  | zero => rw [show i = n by omega]; exact hn
  | succ k ih => exact h i (by omega) (ih (i + 1) (by omega) (by omega))
theorem b01 (p : Prop) [Decidable p] : (if p then (1 : Int) else 0) = 0 ∨ (if p then (1 : Int) else 0) = 1 := by
  by_cases h : p
  · right; rw [if_pos h]
  · left; rw [if_neg h]
theorem upA_same (f : Nat → Nat → Int) (a : Nat) (g : Nat → Int) : upA f a g a = g := if_pos rfl
theorem upA_upA (f : Nat → Nat → Int) (a : Nat) (g h : Nat → Int) : upA (upA f a g) a h = upA f a h := by
  funext b; unfold upA; by_cases e : b = a <;> simp [e]
theorem up1_same (f : Nat → Int) (i : Nat) (v : Int) : up1 f i v i = v := if_pos rfl
theorem up1_ne {f : Nat → Int} {i j : Nat} {v : Int} (h : j ≠ i) : up1 f i v j = f j := if_neg h
/-- a row of gates at g, with room for cap -/
def glS (sh : Shp) (g cap : Nat) : Prop := ob sh 4 7 g ∧ srf sh g 0 = g + 1 ∧ srf sh g 1 = g + 2 ∧ srf sh g 2 = g + 3 ∧ srf sh g 3 = g + 4 ∧ srf sh g 4 = g + 5 ∧ srf sh g 5 = g + 6 ∧
  skd sh (g + 1) = 0 ∧ skd sh (g + 2) = 0 ∧ skd sh (g + 3) = 0 ∧ skd sh (g + 4) = 0 ∧ skd sh (g + 5) = 0 ∧ skd sh (g + 6) = 0 ∧
  sln sh (g + 1) = cap ∧ sln sh (g + 2) = cap ∧ sln sh (g + 3) = cap ∧ sln sh (g + 4) = cap ∧ sln sh (g + 5) = cap ∧ sln sh (g + 6) = cap ∧ g + 6 < sh.1
