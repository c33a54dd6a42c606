/-! ===== urgentOnes ===== -/
def tlF (lo : Bool) (T : Nat → Nat) (c : List Gt) : Nat → Nat → Nat
  | 0, _ => 0
  | f + 1, i => mxx (fun h => if wtB lo (gA c (i + 1 + h)) (gA c i) = true then tlF lo T c f (i + 1 + h) + T (gA c (i + 1 + h)).1 else 0) (c.length - 1 - i)
theorem tlF_eq {lo : Bool} {T : Nat → Nat} {c : List Gt} : ∀ f f' i, c.length - 1 - i < f → c.length - 1 - i < f' → tlF lo T c f i = tlF lo T c f' i
  | 0, _, i, h, _ => by omega
  | _ + 1, 0, i, _, h => by omega
  | f + 1, f' + 1, i, h, h' => by
    rw [tlF, tlF]
    refine mxx_congr _ fun x hx => ?_
    rw [tlF_eq f f' (i + 1 + x) (by omega) (by omega)]
/-- what still must run when gate i has ended -/
def tlS (lo : Bool) (T : Nat → Nat) (c : List Gt) (i : Nat) : Nat := tlF lo T c (c.length + 1) i
def tlG (lo : Bool) (T : Nat → Nat) (c : List Gt) (i h : Nat) : Nat := if wtB lo (gA c (i + 1 + h)) (gA c i) = true then tlS lo T c (i + 1 + h) + T (gA c (i + 1 + h)).1 else 0
theorem tlS_eq {lo : Bool} {T : Nat → Nat} {c : List Gt} {i : Nat} (hi : i < c.length) : tlS lo T c i = mxx (tlG lo T c i) (c.length - 1 - i) := by
  unfold tlS
  rw [tlF]
  refine mxx_congr _ fun x hx => ?_
  unfold tlG tlS
  rw [tlF_eq c.length (c.length + 1) (i + 1 + x) (by omega) (by omega)]
theorem tlF_le {lo : Bool} {T : Nat → Nat} {c : List Gt} (hT : ∀ k, k ≤ 5 → T k ≤ 20) {n : Nat} (hv : okC n c) : ∀ f i, i < c.length → tlF lo T c f i ≤ 20 * (c.length - 1 - i)
  | 0, i, _ => Nat.zero_le _
  | f + 1, i, hi => by
    rw [tlF]
    refine mxx_le _ fun h hh => ?_
    have h1 := tlF_le (lo := lo) hT hv f (i + 1 + h) (by omega)
    have h2 := hT _ (hv.at (show i + 1 + h < c.length by omega)).1
    split <;> omega
theorem tlS_le {lo : Bool} {T : Nat → Nat} {c : List Gt} (hT : ∀ k, k ≤ 5 → T k ≤ 20) {n : Nat} (hv : okC n c) {i : Nat} (hi : i < c.length) : tlS lo T c i ≤ 20 * (c.length - 1 - i) := tlF_le hT hv _ i hi
def ugB (lo : Bool) (T : Nat → Nat) (c : List Gt) (i : Nat) : Bool := decide (enS lo T c i + tlS lo T c i = mxx (enS lo T c) c.length)
theorem mmn_sub {M a b : Nat} (h1 : M < 100000) (h2 : a < 100000) (h3 : b < 100000) : mmn ((M : Int) - (a : Int)) ((M : Int) - (b : Int)) = (M : Int) - ((max a b : Nat) : Int) := by
  unfold mmn
  rw [wi_id (by omega) (by omega), wi_id (by omega) (by omega)]
  rcases Nat.le_total a b with h | h
  · rw [Nat.max_eq_right h]; split <;> omega
  · rw [Nat.max_eq_left h]; split <;> omega
theorem bts_dn {p : Nat → Bool} {N q i : Nat} (h : N = q + 1 + i) : bts (fun j => decide (N - (i + 1) ≤ j) && p j) N = if p q = true then bts (fun j => decide (N - i ≤ j) && p j) N ||| 2 ^ q else bts (fun j => decide (N - i ≤ j) && p j) N := by
  apply Nat.eq_of_testBit_eq
  intro j
  have hd : q ≠ j → decide (N - (i + 1) ≤ j) = decide (N - i ≤ j) := fun e => by
    rw [decide_eq_decide]; omega
  by_cases hp : p q = true
  · rw [if_pos hp, Nat.testBit_or, bts_bit, bts_bit, Nat.testBit_two_pow]
    by_cases e : q = j
    · subst e
      rw [hp, decide_eq_true (show q < N by omega), decide_eq_true (show N - (i + 1) ≤ q by omega)]; simp
    · rw [hd e]; simp [e]
  · rw [if_neg hp, bts_bit, bts_bit]
    by_cases e : q = j
    · subst e; simp [hp]
    · rw [hd e]
section GLU
variable {sh : Shp} {d g cap n t : Nat} {σ : Mem} {c : List Gt} {x : Nat} {lo : Bool} {T : Nat → Nat}
end GLU
