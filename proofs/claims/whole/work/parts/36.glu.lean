/-! ===== urgentOnes ===== -/
def tlF (lo : Bool) (T : Nat → Nat) (c : List Gt) : Nat → Nat → Nat
  | 0, _ => 0
  | f + 1, i => mxx (fun h => if wtB lo (gA c (i + 1 + h)) (gA c i) = true then tlF lo T c f (i + 1 + h) + T (gA c (i + 1 + h)).1 else 0) (c.length - 1 - i)
theorem tlF_eq {lo : Bool} {T : Nat → Nat} {c : List Gt} : ∀ f f' i, c.length - 1 - i < f → c.length - 1 - i < f' → tlF lo T c f i = tlF lo T c f' i
  | 0, _, i, h, _ => by omega
  | _ + 1, 0, i, _, h => by omega
  | f + 1, f' + 1, i, h, h' => by
    rw [tlF, tlF]
    refine mxx_congr _ fun x hx => ?_
    rw [tlF_eq f f' (i + 1 + x) (by omega) (by omega)]
/-- what still must run when gate i has ended -/
def tlS (lo : Bool) (T : Nat → Nat) (c : List Gt) (i : Nat) : Nat := tlF lo T c (c.length + 1) i
def tlG (lo : Bool) (T : Nat → Nat) (c : List Gt) (i h : Nat) : Nat := if wtB lo (gA c (i + 1 + h)) (gA c i) = true then tlS lo T c (i + 1 + h) + T (gA c (i + 1 + h)).1 else 0
theorem tlS_eq {lo : Bool} {T : Nat → Nat} {c : List Gt} {i : Nat} (hi : i < c.length) : tlS lo T c i = mxx (tlG lo T c i) (c.length - 1 - i) := by
  unfold tlS
  rw [tlF]
  refine mxx_congr _ fun x hx => ?_
  unfold tlG tlS
  rw [tlF_eq c.length (c.length + 1) (i + 1 + x) (by omega) (by omega)]
theorem tlF_le {lo : Bool} {T : Nat → Nat} {c : List Gt} (hT : ∀ k, k ≤ 5 → T k ≤ 20) {n : Nat} (hv : okC n c) : ∀ f i, i < c.length → tlF lo T c f i ≤ 20 * (c.length - 1 - i)
  | 0, i, _ => Nat.zero_le _
  | f + 1, i, hi => by
    rw [tlF]
    refine mxx_le _ fun h hh => ?_
    have h1 := tlF_le (lo := lo) hT hv f (i + 1 + h) (by omega)
    have h2 := hT _ (hv.at (show i + 1 + h < c.length by omega)).1
    split <;> omega
theorem tlS_le {lo : Bool} {T : Nat → Nat} {c : List Gt} (hT : ∀ k, k ≤ 5 → T k ≤ 20) {n : Nat} (hv : okC n c) {i : Nat} (hi : i < c.length) : tlS lo T c i ≤ 20 * (c.length - 1 - i) := tlF_le hT hv _ i hi

