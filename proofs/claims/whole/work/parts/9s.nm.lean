/-! ===== the reference: rows of digits, good ===== -/
/-- the digits of D are n unlike places of m -/
def rwV (n m D : Nat) : Bool := (List.range n).all fun x => decide (pOf n D x < m) && (List.range x).all fun y => !decide (pOf n D y = pOf n D x)
theorem rwV_iff {n m D : Nat} : rwV n m D = true ↔ okP n m (pOf n D) := by
  unfold rwV okP
  rw [List.all_eq_true]
  constructor
  · intro h
    have h1 : ∀ x, x < n → pOf n D x < m := fun x hx => by
      have := h x (List.mem_range.mpr hx)
      rw [Bool.and_eq_true] at this
      exact of_decide_eq_true this.1
    have h2 : ∀ x y, x < n → y < x → pOf n D y ≠ pOf n D x := fun x y hx hy => by
      have := h x (List.mem_range.mpr hx)
      rw [Bool.and_eq_true, List.all_eq_true] at this
      have := this.2 y (List.mem_range.mpr hy)
      simpa using this
    refine ⟨h1, fun x y hx hy e => ?_⟩
    rcases Nat.lt_trichotomy x y with g | g | g
    · exact absurd e (h2 y x hy g)
    · exact g
    · exact absurd e.symm (h2 x y hx g)
  · rintro ⟨h1, h2⟩ x hx
    rw [List.mem_range] at hx
    rw [Bool.and_eq_true, List.all_eq_true]
    refine ⟨decide_eq_true (h1 x hx), fun y hy => ?_⟩
    rw [List.mem_range] at hy
    rw [Bool.not_eq_true', decide_eq_false_iff_not]
    intro e
    have := h2 y x (by omega) hx e
    omega
/-- those below k -/
def vT (n m : Nat) : Nat → List Nat
  | 0 => []
  | k + 1 => if rwV n m k = true then vT n m k ++ [k] else vT n m k
/-- from D on, f looked at, they are just L -/
def vck (n m : Nat) : Nat → Nat → List Nat → Bool
  | 0, _, L => L.isEmpty
  | f + 1, D, L => if rwV n m D = true then Nat.beq (L.headD (D + 1)) D && vck n m f (D + 1) L.tail else vck n m f (D + 1) L
theorem vck_eq {n m : Nat} : ∀ (f D : Nat) (L : List Nat), vck n m f D L = true → vT n m (D + f) = vT n m D ++ L := by
  intro f
  induction f with
  | zero =>
    intro D L h
    replace h : L.isEmpty = true := h
    rw [List.isEmpty_iff] at h
    rw [h, List.append_nil]; rfl
  | succ f ih =>
    intro D L h
    rw [vck] at h
    have e : D + (f + 1) = (D + 1) + f := by omega
    by_cases g : rwV n m D = true
    · rw [if_pos g, Bool.and_eq_true] at h
      have h1 := Nat.eq_of_beq_eq_true h.1
      cases L with
      | nil =>
        have h2 : D + 1 = D := h1
        omega
      | cons x xs =>
        have h2 : x = D := h1
        rw [e, ih _ _ h.2, vT, if_pos g, h2, List.append_assoc]
        rfl
    · rw [if_neg g] at h
      rw [e, ih _ _ h, vT, if_neg g]
theorem vck_1 : ∀ m, m < 6 → vck 1 m 10 0 (rwL 1 m) = true := by decide +kernel
theorem vck_2 : ∀ m, m < 6 → vck 2 m 100 0 (rwL 2 m) = true := by decide +kernel
theorem vck_3 : ∀ m, m < 6 → vck 3 m 1000 0 (rwL 3 m) = true := by decide +kernel
theorem vck_4 : ∀ m, m < 6 → vck 4 m 10000 0 (rwL 4 m) = true := by decide +kernel
theorem vT_rw {n m : Nat} (h1 : 1 ≤ n) (hn : n ≤ 4) (hm : m ≤ 5) : vT n m (10 ^ n) = rwL n m := by
  rcases (show n = 1 ∨ n = 2 ∨ n = 3 ∨ n = 4 by omega) with rfl | rfl | rfl | rfl
  · have := vck_eq _ _ _ (vck_1 m (by omega)); rw [show (10 ^ 1 : Nat) = 0 + 10 from rfl, this]; rfl
  · have := vck_eq _ _ _ (vck_2 m (by omega)); rw [show (10 ^ 2 : Nat) = 0 + 100 from rfl, this]; rfl
  · have := vck_eq _ _ _ (vck_3 m (by omega)); rw [show (10 ^ 3 : Nat) = 0 + 1000 from rfl, this]; rfl
  · have := vck_eq _ _ _ (vck_4 m (by omega)); rw [show (10 ^ 4 : Nat) = 0 + 10000 from rfl, this]; rfl

