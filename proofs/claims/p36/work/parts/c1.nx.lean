/-! ===== chances add up to one ===== -/
def s16 (f : Nat → Int) : Int := f 0 + f 1 + f 2 + f 3 + f 4 + f 5 + f 6 + f 7 + f 8 + f 9 + f 10 + f 11 + f 12 + f 13 + f 14 + f 15
theorem s16_congr {f g : Nat → Int} (h : ∀ r, r < 16 → f r = g r) : s16 f = s16 g := by
  unfold s16
  rw [h 0 (by omega), h 1 (by omega), h 2 (by omega), h 3 (by omega), h 4 (by omega), h 5 (by omega), h 6 (by omega), h 7 (by omega), h 8 (by omega), h 9 (by omega), h 10 (by omega), h 11 (by omega), h 12 (by omega), h 13 (by omega), h 14 (by omega), h 15 (by omega)]
theorem s16_add (f g : Nat → Int) : s16 (fun r => f r + g r) = s16 f + s16 g := by
  simp only [s16]; omega
theorem s16_two (f : Nat → Int) : s16 (fun r => 2 * f r) = 2 * s16 f := by
  simp only [s16]; omega
theorem s16_x {a : Nat} (ha : a < 4) (g : Nat → Int) : s16 (fun r => g (r ^^^ 2 ^ a)) = s16 g := by
  rcases (show a = 0 ∨ a = 1 ∨ a = 2 ∨ a = 3 by omega) with rfl | rfl | rfl | rfl <;> simp only [s16, Nat.reducePow, Nat.reduceXor] <;> omega
theorem ch_v (q : Q4) (v : Int) : chQ q v = if v = 0 then chQ q 0 else chQ q 1 := by
  unfold chQ
  by_cases h : v = 0 <;> simp [h]
theorem ch_tu1 (q : Q4) (v : Int) : chQ (tu1 q) v = chQ q v := by
  obtain ⟨a, b, c, d⟩ := q
  simp only [chQ, tu1, Int.neg_mul, Int.mul_neg, Int.neg_neg]
  split <;> omega
theorem ch_tu (q : Q4) (v : Int) : ∀ k, chQ (tuQ k q) v = chQ q v
  | 0 => rfl
  | k + 1 => by rw [tuQ, ch_tu1, ch_tu q v k]
theorem ch_rt (q : Q4) (v : Int) : chQ (rtQ q) v = 2 * chQ q v := by
  obtain ⟨a, b, c, d⟩ := q
  have h1 := Int.mul_comm a b
  have h2 := Int.mul_comm a c
  have h3 := Int.mul_comm a d
  have h4 := Int.mul_comm b c
  have h5 := Int.mul_comm b d
  have h6 := Int.mul_comm c d
  simp only [chQ, rtQ, Int.mul_add, Int.add_mul, Int.mul_sub, Int.sub_mul]
  split <;> omega
theorem ch_as (p q : Q4) (v : Int) : chQ (adQ p q) v + chQ (sbQ p q) v = 2 * (chQ p v + chQ q v) := by
  obtain ⟨a, b, c, d⟩ := p
  obtain ⟨a', b', c', d'⟩ := q
  simp only [chQ, adQ, sbQ, Int.mul_add, Int.add_mul, Int.mul_sub, Int.sub_mul]
  split <;> omega
def nrW (W : Vc) (v : Int) : Int := s16 (fun r => chQ (W r) v)
/-- a sum over states of what depends on a bit -/
theorem s16_if {a b : Nat} (hb : b < 4) (hd : b ≠ a) (g : Nat → Int) : s16 (fun r => if r.testBit a = true then g (r ^^^ 2 ^ b) else g r) = s16 g := by
  have e := s16_x hb (fun r => if r.testBit a = true then g r else 0)
  have e1 : s16 (fun r => if r.testBit a = true then g (r ^^^ 2 ^ b) else g r) = s16 (fun r => (if (r ^^^ 2 ^ b).testBit a = true then g (r ^^^ 2 ^ b) else 0) + (if r.testBit a = true then 0 else g r)) := s16_congr fun r _ => by
    rw [tb_xn hd]
    by_cases h : r.testBit a = true <;> simp [h]
  have e2 : s16 g = s16 (fun r => (if r.testBit a = true then g r else 0) + (if r.testBit a = true then 0 else g r)) := s16_congr fun r _ => by
    by_cases h : r.testBit a = true <;> simp [h]
  rw [e1, e2, s16_add, s16_add, e]
theorem nr_cl {n : Nat} (hn : n ≤ 4) {q : Gt} (hq : vG n q) (W : Vc) (v : Int) : nrW (clW q W) v = (if q.1 = 1 then 2 else 1) * nrW W v := by
  have ha : q.2.1 < 4 := by have := hq.2.1; omega
  have hb : 3 ≤ q.1 → q.2.2.toNat < 4 := fun h => by have := hq.2.2.2.2 h; omega
  have hd := hq.d
  have hk := hq.1
  obtain ⟨k, a, b⟩ := q
  simp only at ha hb hd hk
  unfold nrW
  rcases (show k = 0 ∨ k = 1 ∨ k = 2 ∨ k = 3 ∨ k = 4 ∨ k = 5 by omega) with rfl | rfl | rfl | rfl | rfl | rfl
  · simp only [show (0 : Nat) ≠ 1 by decide, if_false, Int.one_mul]
    refine s16_congr fun r _ => ?_
    simp only [clW, if_true]
    by_cases h : r.testBit a = true
    · rw [if_pos h, ch_tu]
    · rw [if_neg h]
  · simp only [if_true]
    have e1 := s16_x ha (fun r => chQ (clW (1, a, b) W r) v)
    have e2 := s16_x ha (fun r => chQ (W r) v)
    have e3 : s16 (fun r => chQ (clW (1, a, b) W r) v + chQ (clW (1, a, b) W (r ^^^ 2 ^ a)) v) = s16 (fun r => 2 * (chQ (W r) v + chQ (W (r ^^^ 2 ^ a)) v)) := s16_congr fun r _ => by
      simp only [clW, if_true, show (1 : Nat) ≠ 0 by decide, if_false, tb_xs, x_x]
      by_cases h : r.testBit a = true
      · have := ch_as (W (r ^^^ 2 ^ a)) (W r) v
        simp [h]
        omega
      · have h' : r.testBit a = false := by simpa using h
        have := ch_as (W r) (W (r ^^^ 2 ^ a)) v
        simp [h']
        omega
    rw [s16_add, s16_two, s16_add] at e3
    omega
  · simp only [show (2 : Nat) ≠ 1 by decide, if_false, Int.one_mul]
    have : s16 (fun r => chQ (clW (2, a, b) W r) v) = s16 (fun r => chQ (W (r ^^^ 2 ^ a)) v) := s16_congr fun r _ => by
      simp only [clW, if_true, show (2 : Nat) ≠ 0 by decide, show (2 : Nat) ≠ 1 by decide, if_false]
    rw [this]
    exact s16_x ha (fun r => chQ (W r) v)
  · simp only [show (3 : Nat) ≠ 1 by decide, if_false, Int.one_mul]
    have : s16 (fun r => chQ (clW (3, a, b) W r) v) = s16 (fun r => if r.testBit a = true then chQ (W (r ^^^ 2 ^ b.toNat)) v else chQ (W r) v) := s16_congr fun r _ => by
      simp only [clW, if_true, show (3 : Nat) ≠ 0 by decide, show (3 : Nat) ≠ 1 by decide, show (3 : Nat) ≠ 2 by decide, if_false]
      by_cases h : r.testBit a = true <;> simp [h]
    rw [this]
    exact s16_if (hb (by omega)) (hd (by omega)) (fun r => chQ (W r) v)
  · simp only [show (4 : Nat) ≠ 1 by decide, if_false, Int.one_mul]
    refine s16_congr fun r _ => ?_
    simp only [clW, if_true, show (4 : Nat) ≠ 0 by decide, show (4 : Nat) ≠ 1 by decide, show (4 : Nat) ≠ 2 by decide, show (4 : Nat) ≠ 3 by decide, if_false]
    by_cases h : r.testBit a = true ∧ r.testBit b.toNat = true
    · rw [if_pos h, ch_tu]
    · rw [if_neg h]
  · simp only [show (5 : Nat) ≠ 1 by decide, if_false, Int.one_mul]
    have hb := hb (by omega)
    have hd := hd (by omega)
    have gx := s16_x ha (fun r => s16 (fun _ => 0) + (if (r ^^^ 2 ^ b.toNat).testBit a = (r ^^^ 2 ^ b.toNat).testBit b.toNat then 0 else chQ (W (r ^^^ 2 ^ b.toNat)) v))
    have gy := s16_x hb (fun r => s16 (fun _ => 0) + (if r.testBit a = r.testBit b.toNat then 0 else chQ (W r) v))
    have z : s16 (fun _ => 0) = 0 := rfl
    simp only [z, Int.zero_add] at gx gy
    have e1 : s16 (fun r => chQ (clW (5, a, b) W r) v) = s16 (fun r => (if ((r ^^^ 2 ^ a) ^^^ 2 ^ b.toNat).testBit a = ((r ^^^ 2 ^ a) ^^^ 2 ^ b.toNat).testBit b.toNat then 0 else chQ (W ((r ^^^ 2 ^ a) ^^^ 2 ^ b.toNat)) v) + (if r.testBit a = r.testBit b.toNat then chQ (W r) v else 0)) := s16_congr fun r _ => by
      have f1 : ((r ^^^ 2 ^ a) ^^^ 2 ^ b.toNat).testBit a = !r.testBit a := by rw [tb_xn hd, tb_xs]
      have f2 : ((r ^^^ 2 ^ a) ^^^ 2 ^ b.toNat).testBit b.toNat = !r.testBit b.toNat := by rw [tb_xs, tb_xn (Ne.symm hd)]
      rw [f1, f2]
      simp only [clW, show (5 : Nat) ≠ 0 by decide, show (5 : Nat) ≠ 1 by decide, show (5 : Nat) ≠ 2 by decide, show (5 : Nat) ≠ 3 by decide, show (5 : Nat) ≠ 4 by decide, if_false]
      cases h1 : r.testBit a <;> cases h2 : r.testBit b.toNat <;> simp
    have e2 : s16 (fun r => chQ (W r) v) = s16 (fun r => (if r.testBit a = r.testBit b.toNat then 0 else chQ (W r) v) + (if r.testBit a = r.testBit b.toNat then chQ (W r) v else 0)) := s16_congr fun r _ => by
      by_cases h : r.testBit a = r.testBit b.toNat <;> simp [h]
    rw [e1, e2, s16_add, s16_add, gx, gy]
theorem nr_fo {n : Nat} (hn : n ≤ 4) (v : Int) : ∀ {c : List Gt}, okC n c → ∀ W : Vc, nrW (foW c W) v = 2 ^ foP c * nrW W v
  | [], _, W => by show nrW W v = 2 ^ 0 * nrW W v; omega
  | q :: c, hv, W => by
    rw [foW_cons, nr_fo hn v (fun x hx => hv x (List.mem_cons_of_mem _ hx)), nr_cl hn (hv q List.mem_cons_self), foP_cons, ← Int.mul_assoc]
    congr 1
    unfold ktH
    by_cases h : q.1 = 1
    · rw [if_pos h, if_pos h, Nat.add_comm 1, Int.pow_succ]
    · rw [if_neg h, if_neg h, Nat.zero_add, Int.mul_one]
theorem nr_rtN (v : Int) (W : Vc) : ∀ j, nrW (rtN j W) v = 2 ^ j * nrW W v
  | 0 => by show nrW W v = 2 ^ 0 * nrW W v; omega
  | j + 1 => by
    have : nrW (rtN (j + 1) W) v = 2 * nrW (rtN j W) v := by
      unfold nrW
      rw [← s16_two]
      exact s16_congr fun r _ => ch_rt _ _
    rw [this, nr_rtN v W j, Int.pow_succ, ← Int.mul_assoc, Int.mul_comm 2]
theorem nr_e1 {s : Nat} (hs : s < 16) : nrW (e1W s) 0 = 1 ∧ nrW (e1W s) 1 = 0 := by
  rcases (show s = 0 ∨ s = 1 ∨ s = 2 ∨ s = 3 ∨ s = 4 ∨ s = 5 ∨ s = 6 ∨ s = 7 ∨ s = 8 ∨ s = 9 ∨ s = 10 ∨ s = 11 ∨ s = 12 ∨ s = 13 ∨ s = 14 ∨ s = 15 by omega) with rfl | rfl | rfl | rfl | rfl | rfl | rfl | rfl | rfl | rfl | rfl | rfl | rfl | rfl | rfl | rfl <;> exact ⟨by decide, by decide⟩
theorem am_nr {n s : Nat} (hn : n ≤ 4) {c : List Gt} (hv : okC n c) (hs : s < 2 ^ n) : nrW (amV c s).1 0 = 2 ^ (amV c s).2 ∧ nrW (amV c s).1 1 = 0 := by
  have h16 : 2 ^ n ≤ 2 ^ 4 := Nat.pow_le_pow_right (by omega) hn
  obtain ⟨n0, n1⟩ := nr_e1 (show s < 16 by omega)
  rw [amV_fo hn hv hs]
  obtain ⟨j, h1, h2⟩ := noV_w hn (foP c) (foW_sp hv (e1_sp hs))
  have p0 := nr_rtN 0 (noV (foP c) (foW c (e1W s))).1 j
  have p1 := nr_rtN 1 (noV (foP c) (foW c (e1W s))).1 j
  rw [h1, nr_fo hn _ hv, n0, Int.mul_one] at p0
  rw [h1, nr_fo hn _ hv, n1, Int.mul_zero] at p1
  have hp : (0 : Int) < 2 ^ j := Int.pow_pos (by decide)
  constructor
  · have e : (2 : Int) ^ foP c = 2 ^ j * 2 ^ (noV (foP c) (foW c (e1W s))).2 := by
      rw [← Int.pow_add]
      congr 1
      omega
    rw [e] at p0
    exact (Int.eq_of_mul_eq_mul_left (by omega) p0).symm
  · rcases Int.mul_eq_zero.mp p1.symm with h | h
    · omega
    · exact h
theorem no_least : ∀ (p : Nat) (W : Vc), (noV p W).2 = 0 ∨ evW (noV p W).1 = false
  | 0, _ => Or.inl rfl
  | p + 1, W => by
    rw [noV]
    by_cases h : evW W = true
    · rw [if_pos h]; exact no_least p (leW W)
    · rw [if_neg h]; exact Or.inr (by simpa using h)
theorem am_least {n s : Nat} (hn : n ≤ 4) {c : List Gt} (hv : okC n c) (hs : s < 2 ^ n) : (amV c s).2 = 0 ∨ evW (amV c s).1 = false := by
  rw [amV_fo hn hv hs]; exact no_least _ _
/-- something comes out -/
theorem am_some {n s : Nat} (hn : n ≤ 4) {c : List Gt} (hv : okC n c) (hs : s < 2 ^ n) : ∃ r, r < 2 ^ n ∧ (amV c s).1 r ≠ qz := by
  have hp := (am_nr hn hv hs).1
  have h2 : (0 : Int) < 2 ^ (amV c s).2 := Int.pow_pos (by decide)
  apply Classical.byContradiction
  intro hno
  have hz : ∀ r, (amV c s).1 r = qz := fun r => by
    by_cases hr : r < 2 ^ n
    · exact Classical.byContradiction fun h => hno ⟨r, hr, h⟩
    · exact amV_sp hv hs r (by omega)
  have : nrW (amV c s).1 0 = 0 := by
    unfold nrW
    rw [s16_congr (g := fun _ => 0) (fun r _ => by rw [hz r]; rfl)]
    rfl
  omega
