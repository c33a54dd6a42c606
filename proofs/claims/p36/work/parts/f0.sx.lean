/-! ===== same: what the law asks of it ===== -/
theorem ev_tu (q : Q4) : ∀ k, evQ (tuQ k q) = evQ q
  | 0 => rfl
  | k + 1 => by
    rw [tuQ, ← ev_tu q k]
    generalize tuQ k q = p
    obtain ⟨p1, p2, p3, p4⟩ := p
    show evQ (-p4, p1, p2, p3) = evQ (p1, p2, p3, p4)
    rw [Bool.eq_iff_iff]
    simp only [evQ, Bool.and_eq_true, decide_eq_true_eq]
    constructor <;> (rintro ⟨h1, h2⟩; constructor <;> omega)
theorem evW_all {n : Nat} (hn : n ≤ 4) {W : Vc} (hW : spW n W) : evW W = true ↔ ∀ r, evQ (W r) = true := by
  unfold evW
  rw [fa_iff]
  constructor
  · intro h r
    by_cases hr : r < 16
    · exact h r (by omega) (by omega)
    · have p16 : 2 ^ n ≤ 2 ^ 4 := Nat.pow_le_pow_right (by omega) hn
      rw [hW r (by omega)]; rfl
  · exact fun h j _ _ => h j
/-- gates without h behind a circuit that leave the parity alone -/
theorem am_app {n s : Nat} (hn : n ≤ 4) {c e : List Gt} (hv : okC n c) (he : okC n e) (hs : s < 2 ^ n) (h0 : foP e = 0) (hev : evW (foW e (amV c s).1) = evW (amV c s).1) : amV (c ++ e) s = (foW e (amV c s).1, (amV c s).2) := by
  have hve : okC n (c ++ e) := fun q hq => (List.mem_append.mp hq).elim (hv q) (he q)
  have hc := amV_fo hn hv hs
  obtain ⟨j, h1, h2⟩ := noV_w hn (foP c) (foW_sp hv (e1_sp hs))
  have hid := noV_id (foP c) (foW c (e1W s))
  rw [← hc] at h1 h2 hid
  rw [amV_fo hn hve hs, foP_app, h0, foW_app, Nat.add_zero, ← h1, ← h2, foW_rtN, noV_rt]
  clear hc h1 h2
  generalize amV c s = U at *
  obtain ⟨V, p⟩ := U
  cases p with
  | zero => rfl
  | succ p =>
    have hne : ¬ evW V = true := fun h => by
      have q : noV (p + 1) V = (V, p + 1) := hid
      rw [noV, if_pos h] at q
      have l := noV_le p (leW V)
      rw [q] at l
      have l' : p + 1 ≤ p := l
      omega
    show noV (p + 1) (foW e V) = _
    rw [noV, if_neg (by rw [show evW (foW e V) = evW V from hev]; exact hne)]
/-! two lines changed -/
def swI (a b r : Nat) : Nat := if r.testBit a = r.testBit b then r else (r ^^^ 2 ^ a) ^^^ 2 ^ b
theorem swI_sw {a b : Nat} (h : a ≠ b) (r : Nat) : swI a b (swI a b r) = r := by
  unfold swI
  by_cases e : r.testBit a = r.testBit b
  · rw [if_pos e, if_pos e]
  · have ea : ((r ^^^ 2 ^ a) ^^^ 2 ^ b).testBit a = !r.testBit a := by
      rw [tb_x, tb_x, decide_eq_true rfl, decide_eq_false (Ne.symm h)]; cases r.testBit a <;> rfl
    have eb : ((r ^^^ 2 ^ a) ^^^ 2 ^ b).testBit b = !r.testBit b := by
      rw [tb_x, tb_x, decide_eq_true rfl, decide_eq_false h]; cases r.testBit b <;> rfl
    rw [if_neg e, ea, eb, if_neg (fun z => e (by revert z; cases r.testBit a <;> cases r.testBit b <;> simp))]
    apply Nat.eq_of_testBit_eq
    intro i
    rw [tb_x, tb_x, tb_x, tb_x]
    cases r.testBit i <;> cases decide (a = i) <;> cases decide (b = i) <;> rfl
theorem cl_sw (a b : Nat) (V : Vc) (r : Nat) : clW (5, a, (b : Int)) V r = V (swI a b r) := by
  unfold clW swI
  rw [if_neg (show ¬ (5 : Nat) = 0 by decide), if_neg (show ¬ (5 : Nat) = 1 by decide), if_neg (show ¬ (5 : Nat) = 2 by decide), if_neg (show ¬ (5 : Nat) = 3 by decide), if_neg (show ¬ (5 : Nat) = 4 by decide)]
  show (if r.testBit a = r.testBit b then _ else _) = _
  split <;> rfl
theorem am_sw {n s a b : Nat} (hn : n ≤ 4) {c : List Gt} (hv : okC n c) (hs : s < 2 ^ n) (ha : a < n) (hb : b < n) (h : a ≠ b) : amV (c ++ [(5, a, (b : Int))]) s = (fun r => (amV c s).1 (swI a b r), (amV c s).2) := by
  have hq : vG n (5, a, (b : Int)) := ⟨show (5 : Nat) ≤ 5 by decide, ha, fun z => absurd (show (5 : Nat) = 0 from z) (by decide), fun z => absurd (show (5 : Nat) = 1 ∨ (5 : Nat) = 2 from z) (by decide), fun _ => by simp only; omega⟩
  have hf : foW [(5, a, (b : Int))] (amV c s).1 = fun r => (amV c s).1 (swI a b r) := funext fun r => cl_sw a b _ r
  rw [am_app hn hv (fun q hx => by rw [List.mem_singleton.mp hx]; exact hq) hs rfl ?_, hf]
  have hV := amV_sp hv hs
  have hW : spW n (foW [(5, a, (b : Int))] (amV c s).1) := clW_sp hq hV
  rw [Bool.eq_iff_iff, evW_all hn hW, evW_all hn hV, hf]
  constructor
  · intro h2 r
    have := h2 (swI a b r)
    simp only [swI_sw h] at this
    exact this
  · exact fun h2 r => h2 _
/-! x r x r -/
theorem fo_xr (k : Int) (V : Vc) : foW [(2, 0, -1), (0, 0, k), (2, 0, -1), (0, 0, k)] V = fun r => tuQ k.toNat (V r) := by
  funext r
  show clW (0, 0, k) (clW (2, 0, -1) (clW (0, 0, k) (clW (2, 0, -1) V))) r = _
  have xx : ∀ r : Nat, (r ^^^ 2 ^ 0) ^^^ 2 ^ 0 = r := fun r => by
    apply Nat.eq_of_testBit_eq
    intro i
    rw [tb_x, tb_x]
    cases r.testBit i <;> cases decide (0 = i) <;> rfl
  have t0 : (r ^^^ 2 ^ 0).testBit 0 = !r.testBit 0 := by
    rw [tb_x, decide_eq_true rfl]; cases r.testBit 0 <;> rfl
  have cx : ∀ (W : Vc) r, clW (2, 0, -1) W r = W (r ^^^ 2 ^ 0) := fun W r => rfl
  have cr : ∀ (W : Vc) r, clW (0, 0, k) W r = if r.testBit 0 = true then tuQ k.toNat (W r) else W r := fun W r => rfl
  rw [cr, cx, cr, cx, xx, t0]
  cases r.testBit 0 <;> rfl
theorem am_xr {n s : Nat} {k : Nat} (hn : n ≤ 4) (n1 : 1 ≤ n) {c : List Gt} (hv : okC n c) (hs : s < 2 ^ n) (hk : k < 8) : amV (c ++ [(2, 0, -1), (0, 0, (k : Int)), (2, 0, -1), (0, 0, (k : Int))]) s = (fun r => tuQ k ((amV c s).1 r), (amV c s).2) := by
  have qx : vG n (2, 0, -1) := ⟨show (2 : Nat) ≤ 5 by decide, n1, fun z => absurd (show (2 : Nat) = 0 from z) (by decide), fun _ => rfl, fun z => absurd (show 3 ≤ 2 from z) (by decide)⟩
  have qr : vG n (0, 0, (k : Int)) := ⟨show (0 : Nat) ≤ 5 by decide, n1, fun _ => ⟨Int.natCast_nonneg _, by show (k : Int) < 8; omega⟩, fun z => absurd (show (0 : Nat) = 1 ∨ (0 : Nat) = 2 from z) (by decide), fun z => absurd (show 3 ≤ 0 from z) (by decide)⟩
  have he : okC n [(2, 0, -1), (0, 0, (k : Int)), (2, 0, -1), (0, 0, (k : Int))] := fun q hq => by
    simp only [List.mem_cons, List.not_mem_nil, or_false] at hq
    rcases hq with rfl | rfl | rfl | rfl
    · exact qx
    · exact qr
    · exact qx
    · exact qr
  have hf := fo_xr (k : Int) (amV c s).1
  rw [Int.toNat_natCast] at hf
  rw [am_app hn hv he hs rfl ?_, hf]
  have hV := amV_sp hv hs
  have hW := foW_sp he hV
  rw [Bool.eq_iff_iff, evW_all hn hW, evW_all hn hV, hf]
  simp only [ev_tu]
theorem tu_inj {z : Q4} : ∀ k, k < 8 → ∀ t, t < 8 → tuQ k z = tuQ t z → z ≠ qz → k = t := by
  obtain ⟨a, b, c, d⟩ := z
  intro k hk t ht h hz
  have hz' : ¬ (a = 0 ∧ b = 0 ∧ c = 0 ∧ d = 0) := fun ⟨h1, h2, h3, h4⟩ => hz (by rw [h1, h2, h3, h4]; rfl)
  rcases (show k = 0 ∨ k = 1 ∨ k = 2 ∨ k = 3 ∨ k = 4 ∨ k = 5 ∨ k = 6 ∨ k = 7 by omega) with rfl | rfl | rfl | rfl | rfl | rfl | rfl | rfl <;>
  rcases (show t = 0 ∨ t = 1 ∨ t = 2 ∨ t = 3 ∨ t = 4 ∨ t = 5 ∨ t = 6 ∨ t = 7 by omega) with rfl | rfl | rfl | rfl | rfl | rfl | rfl | rfl <;>
  first | rfl | (exfalso; simp only [tuQ, tu1, Prod.mk.injEq] at h; omega)
/-! the least bit -/
theorem fst1_at {p : Nat → Bool} {x : Nat} (hx : p x = true) : ∀ k i, i ≤ x → x < i + k → (∀ y, i ≤ y → y < x → p y = false) → fst1 p k i = some x
  | 0, i, h1, h2, _ => by omega
  | k + 1, i, h1, h2, h3 => by
    rw [fst1]
    by_cases e : i = x
    · subst e; rw [if_pos hx]
    · rw [if_neg (by rw [h3 i (Nat.le_refl _) (by omega)]; decide)]
      exact fst1_at hx k (i + 1) (by omega) (by omega) (fun y g1 g2 => h3 y (by omega) g2)
theorem fst1_no {p : Nat → Bool} : ∀ k i, fst1 p k i = none → ∀ y, i ≤ y → y < i + k → p y = false
  | 0, i, _, y, h1, h2 => by omega
  | k + 1, i, h, y, h1, h2 => by
    rw [fst1] at h
    by_cases hp : p i = true
    · rw [if_pos hp] at h; cases h
    · rw [if_neg hp] at h
      by_cases e : y = i
      · subst e; simpa using hp
      · exact fst1_no k (i + 1) h y (by omega) (by omega)
theorem loI_at {b k : Nat} (hk : k < 31) (h1 : b.testBit k = true) (h2 : ∀ j, j < k → b.testBit j = false) : loI b = (k : Int) := by
  unfold loI
  rw [fst1_at (p := fun i => b.testBit i) h1 31 0 (by omega) (by omega) (fun y _ hy => h2 y hy)]; rfl
theorem loI_ge {b k : Nat} (hk : k < 31) (h1 : b.testBit k = true) : 0 ≤ loI b := by
  unfold loI
  cases e : fst1 (fun i => b.testBit i) (31 - 0) 0 with
  | none => 
    have q : b.testBit k = false := fst1_no 31 0 e k (by omega) (by omega)
    rw [h1] at q; cases q
  | some x => exact Int.natCast_nonneg _
