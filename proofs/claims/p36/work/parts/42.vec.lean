/-! ===== vectors: what a gate does to all states ===== -/
abbrev Q4 : Type := Int × Int × Int × Int
def qz : Q4 := (0, 0, 0, 0)
def qo : Q4 := (1, 0, 0, 0)
/-- an eighth of a turn on -/
def tu1 (q : Q4) : Q4 := (-q.2.2.2, q.1, q.2.1, q.2.2.1)
def tuQ : Nat → Q4 → Q4
  | 0, q => q
  | k + 1, q => tu1 (tuQ k q)
def adQ (p q : Q4) : Q4 := (p.1 + q.1, p.2.1 + q.2.1, p.2.2.1 + q.2.2.1, p.2.2.2 + q.2.2.2)
def sbQ (p q : Q4) : Q4 := (p.1 - q.1, p.2.1 - q.2.1, p.2.2.1 - q.2.2.1, p.2.2.2 - q.2.2.2)
/-- times the root -/
def rtQ (q : Q4) : Q4 := (q.2.1 - q.2.2.2, q.1 + q.2.2.1, q.2.1 + q.2.2.2, q.2.2.1 - q.1)
/-- by the root -/
def leQ (q : Q4) : Q4 := ((q.2.1 - q.2.2.2) / 2, (q.1 + q.2.2.1) / 2, (q.2.1 + q.2.2.2) / 2, (q.2.2.1 - q.1) / 2)
def evQ (q : Q4) : Bool := decide ((q.1 - q.2.2.1) % 2 = 0) && decide ((q.2.1 - q.2.2.2) % 2 = 0)
abbrev Vc : Type := Nat → Q4
def upQ (W : Vc) (s : Nat) (q : Q4) : Vc := fun r => if r = s then q else W r
theorem upQ_same (W : Vc) (s : Nat) (q : Q4) : upQ W s q s = q := if_pos rfl
theorem upQ_ne {W : Vc} {s r : Nat} {q : Q4} (h : r ≠ s) : upQ W s q r = W r := if_neg h
def exW (s t : Nat) (W : Vc) : Vc := upQ (upQ W s (W t)) t (W s)
def mxW (s t : Nat) (W : Vc) : Vc := upQ (upQ W s (adQ (W s) (W t))) t (sbQ (W s) (W t))
/-- a gate at one state, of those below all -/
def stW (q : Gt) (s : Nat) (W : Vc) : Vc :=
  if q.1 = 0 then (if s.testBit q.2.1 = true then upQ W s (tuQ q.2.2.toNat (W s)) else W)
  else if q.1 = 1 then (if s.testBit q.2.1 = true then W else mxW s (s ||| 2 ^ q.2.1) W)
  else if q.1 = 2 then (if s.testBit q.2.1 = true then W else exW s (s ||| 2 ^ q.2.1) W)
  else if q.1 = 3 then (if s.testBit q.2.1 = true ∧ ¬ s.testBit q.2.2.toNat = true then exW s (s ||| 2 ^ q.2.2.toNat) W else W)
  else if q.1 = 4 then (if s.testBit q.2.1 = true ∧ s.testBit q.2.2.toNat = true then upQ W s (tuQ 4 (W s)) else W)
  else (if s.testBit q.2.1 = true ∧ ¬ s.testBit q.2.2.toNat = true then exW s ((s ^^^ 2 ^ q.2.1) ^^^ 2 ^ q.2.2.toNat) W else W)
def doW (q : Gt) : Nat → Vc → Vc
  | 0, W => W
  | s + 1, W => stW q s (doW q s W)
/-- what comes out at state r, from what was there -/
def clW (q : Gt) (W : Vc) (r : Nat) : Q4 :=
  if q.1 = 0 then (if r.testBit q.2.1 = true then tuQ q.2.2.toNat (W r) else W r)
  else if q.1 = 1 then (if r.testBit q.2.1 = true then sbQ (W (r ^^^ 2 ^ q.2.1)) (W r) else adQ (W r) (W (r ^^^ 2 ^ q.2.1)))
  else if q.1 = 2 then W (r ^^^ 2 ^ q.2.1)
  else if q.1 = 3 then (if r.testBit q.2.1 = true then W (r ^^^ 2 ^ q.2.2.toNat) else W r)
  else if q.1 = 4 then (if r.testBit q.2.1 = true ∧ r.testBit q.2.2.toNat = true then tuQ 4 (W r) else W r)
  else (if r.testBit q.2.1 = r.testBit q.2.2.toNat then W r else W ((r ^^^ 2 ^ q.2.1) ^^^ 2 ^ q.2.2.toNat))
/-- the state at which r is dealt with -/
def piW (q : Gt) (r : Nat) : Nat :=
  if q.1 = 0 then r
  else if q.1 = 1 then (if r.testBit q.2.1 = true then r ^^^ 2 ^ q.2.1 else r)
  else if q.1 = 2 then (if r.testBit q.2.1 = true then r ^^^ 2 ^ q.2.1 else r)
  else if q.1 = 3 then (if r.testBit q.2.1 = true ∧ r.testBit q.2.2.toNat = true then r ^^^ 2 ^ q.2.2.toNat else r)
  else if q.1 = 4 then r
  else (if ¬ r.testBit q.2.1 = true ∧ r.testBit q.2.2.toNat = true then (r ^^^ 2 ^ q.2.1) ^^^ 2 ^ q.2.2.toNat else r)
theorem tb_x {r a j : Nat} : (r ^^^ 2 ^ a).testBit j = (r.testBit j ^^ decide (a = j)) := by rw [Nat.testBit_xor, Nat.testBit_two_pow]
theorem tb_xs {r a : Nat} : (r ^^^ 2 ^ a).testBit a = !r.testBit a := by rw [tb_x]; simp
theorem tb_xn {r a j : Nat} (h : a ≠ j) : (r ^^^ 2 ^ a).testBit j = r.testBit j := by rw [tb_x]; simp [h]
theorem x_x {r a : Nat} : (r ^^^ 2 ^ a) ^^^ 2 ^ a = r := by rw [Nat.xor_assoc, Nat.xor_self, Nat.xor_zero]
theorem x_c {r a b : Nat} : (r ^^^ 2 ^ a) ^^^ 2 ^ b = (r ^^^ 2 ^ b) ^^^ 2 ^ a := by rw [Nat.xor_assoc, Nat.xor_comm (2 ^ a), ← Nat.xor_assoc]
theorem or_x {s a : Nat} (h : ¬ s.testBit a = true) : s ||| 2 ^ a = s ^^^ 2 ^ a := by
  apply Nat.eq_of_testBit_eq
  intro j
  rw [Nat.testBit_or, tb_x, Nat.testBit_two_pow]
  by_cases e : a = j
  · subst e; simp [h]
  · simp [e]
theorem x_ne {r a : Nat} : r ^^^ 2 ^ a ≠ r := by
  intro h
  have e : (r ^^^ 2 ^ a).testBit a = r.testBit a := by rw [h]
  rw [tb_xs] at e
  cases hb : r.testBit a <;> rw [hb] at e <;> cases e
theorem x_eq {r s a : Nat} : (r = s ^^^ 2 ^ a) ↔ (r ^^^ 2 ^ a = s) := by
  constructor
  · intro h; rw [h, x_x]
  · intro h; rw [← h, x_x]
theorem xx_ne {r a b : Nat} (h : a ≠ b) : (r ^^^ 2 ^ a) ^^^ 2 ^ b ≠ r := by
  intro e
  have e2 : ((r ^^^ 2 ^ a) ^^^ 2 ^ b).testBit a = r.testBit a := by rw [e]
  rw [tb_xn (Ne.symm h), tb_xs] at e2
  cases hb : r.testBit a <;> rw [hb] at e2 <;> cases e2
theorem xx_eq {r s a b : Nat} : (r = (s ^^^ 2 ^ a) ^^^ 2 ^ b) ↔ ((r ^^^ 2 ^ a) ^^^ 2 ^ b = s) := by
  rw [x_eq, x_eq, x_c]
theorem upQ_if (W : Vc) (s : Nat) (q : Q4) (r : Nat) : upQ W s q r = if r = s then q else W r := rfl
theorem exW_if (s t : Nat) (W : Vc) (r : Nat) : exW s t W r = if r = t then W s else if r = s then W t else W r := rfl
theorem mxW_if (s t : Nat) (W : Vc) (r : Nat) : mxW s t W r = if r = t then sbQ (W s) (W t) else if r = s then adQ (W s) (W t) else W r := rfl
/-- one state: what is dealt with there -/
theorem stW_eq {q : Gt} (hq : q.1 ≤ 5) (hd : 3 ≤ q.1 → q.2.2.toNat ≠ q.2.1) (s r : Nat) (W : Vc) : stW q s W r = if piW q r = s then clW q W r else W r := by
  obtain ⟨k, a, b⟩ := q
  simp only at hq hd
  simp only [stW, piW, clW]
  generalize b.toNat = bb at hd ⊢
  rcases (show k = 0 ∨ k = 1 ∨ k = 2 ∨ k = 3 ∨ k = 4 ∨ k = 5 by omega) with rfl | rfl | rfl | rfl | rfl | rfl
  · simp only [stW, piW, clW, if_true]
    by_cases e : r = s
    · subst e
      by_cases h : r.testBit a = true
      · simp [h, upQ_same]
      · simp [h]
    · by_cases h : s.testBit a = true
      · simp [h, e, upQ_ne e]
      · simp [h, e]
  · simp only [stW, piW, clW, if_true, show (1 : Nat) ≠ 0 by decide, if_false]
    by_cases h : s.testBit a = true
    · simp only [h, if_true]
      have e : ¬ (if r.testBit a = true then r ^^^ 2 ^ a else r) = s := by
        intro e
        by_cases hr : r.testBit a = true
        · rw [if_pos hr] at e; rw [← e, tb_xs, hr] at h; cases h
        · rw [if_neg hr] at e; rw [e] at hr; exact hr h
      rw [if_neg e]
    · rw [if_neg h, or_x h, mxW_if]
      by_cases hr : r.testBit a = true
      · rw [if_pos hr, if_pos hr]
        by_cases e : r ^^^ 2 ^ a = s
        · rw [if_pos (x_eq.mpr e), if_pos e, ← e, x_x]
        · rw [if_neg (fun z => e (x_eq.mp z)), if_neg (fun z => h (by rw [← z]; exact hr)), if_neg e]
      · rw [if_neg hr, if_neg hr]
        by_cases e : r = s
        · subst e
          rw [if_neg (Ne.symm x_ne), if_pos rfl]
        · rw [if_neg (fun z => hr (by rw [z, tb_xs]; simpa using h)), if_neg e, if_neg e]
  · simp only [stW, piW, clW, if_true, show (2 : Nat) ≠ 0 by decide, show (2 : Nat) ≠ 1 by decide, if_false]
    by_cases h : s.testBit a = true
    · simp only [h, if_true]
      have e : ¬ (if r.testBit a = true then r ^^^ 2 ^ a else r) = s := by
        intro e
        by_cases hr : r.testBit a = true
        · rw [if_pos hr] at e; rw [← e, tb_xs, hr] at h; cases h
        · rw [if_neg hr] at e; rw [e] at hr; exact hr h
      rw [if_neg e]
    · rw [if_neg h, or_x h, exW_if]
      by_cases hr : r.testBit a = true
      · rw [if_pos hr]
        by_cases e : r ^^^ 2 ^ a = s
        · rw [if_pos (x_eq.mpr e), if_pos e, ← e]
        · rw [if_neg (fun z => e (x_eq.mp z)), if_neg (fun z => h (by rw [← z]; exact hr)), if_neg e]
      · rw [if_neg hr]
        by_cases e : r = s
        · subst e
          rw [if_neg (Ne.symm x_ne), if_pos rfl]
        · rw [if_neg (fun z => hr (by rw [z, tb_xs]; simpa using h)), if_neg e, if_neg e]
  · have hd := hd (by decide)
    simp only [stW, piW, clW, if_true, show (3 : Nat) ≠ 0 by decide, show (3 : Nat) ≠ 1 by decide, show (3 : Nat) ≠ 2 by decide, if_false]
    by_cases hr : r.testBit a = true
    · by_cases hb : r.testBit bb = true
      · have c1 : r.testBit a = true ∧ r.testBit bb = true := ⟨hr, hb⟩
        simp only [if_pos c1, if_pos hr]
        by_cases h : s.testBit a = true ∧ ¬ s.testBit bb = true
        · rw [if_pos h, or_x h.2, exW_if]
          have n1 : ¬ r = s := fun z => h.2 (by rw [← z]; exact hb)
          by_cases e : r ^^^ 2 ^ bb = s
          · have e' : r = s ^^^ 2 ^ bb := x_eq.mpr e
            simp only [if_pos e, if_pos e']
            rw [← e]
          · have e' : ¬ r = s ^^^ 2 ^ bb := fun z => e (x_eq.mp z)
            simp only [if_neg e, if_neg e', if_neg n1]
        · have e : ¬ r ^^^ 2 ^ bb = s := fun z => h (by rw [← z, tb_xn hd, tb_xs, hr, hb]; simp)
          simp only [if_neg h, if_neg e]
      · have c1 : ¬ (r.testBit a = true ∧ r.testBit bb = true) := fun z => hb z.2
        simp only [if_neg c1, if_pos hr]
        by_cases h : s.testBit a = true ∧ ¬ s.testBit bb = true
        · rw [if_pos h, or_x h.2, exW_if]
          have n1 : ¬ r = s ^^^ 2 ^ bb := fun z => hb (by rw [z, tb_xs]; simpa using h.2)
          by_cases e : r = s
          · simp only [if_neg n1, if_pos e]
            rw [e]
          · simp only [if_neg n1, if_neg e]
        · have e : ¬ r = s := fun z => h (by rw [← z]; exact ⟨hr, hb⟩)
          simp only [if_neg h, if_neg e]
    · have c1 : ¬ (r.testBit a = true ∧ r.testBit bb = true) := fun z => hr z.1
      simp only [if_neg c1, if_neg hr]
      by_cases h : s.testBit a = true ∧ ¬ s.testBit bb = true
      · rw [if_pos h, or_x h.2, exW_if]
        have n1 : ¬ r = s ^^^ 2 ^ bb := fun z => hr (by rw [z, tb_xn hd]; exact h.1)
        have n2 : ¬ r = s := fun z => hr (by rw [z]; exact h.1)
        simp only [if_neg n1, if_neg n2]
        try (split <;> rfl)
      · simp only [if_neg h]
        try (split <;> rfl)
  · simp only [stW, piW, clW, if_true, show (4 : Nat) ≠ 0 by decide, show (4 : Nat) ≠ 1 by decide, show (4 : Nat) ≠ 2 by decide, show (4 : Nat) ≠ 3 by decide, if_false]
    by_cases e : r = s
    · subst e
      by_cases h : r.testBit a = true ∧ r.testBit bb = true
      · rw [if_pos h, if_pos rfl, if_pos h, upQ_same]
      · rw [if_neg h, if_pos rfl, if_neg h]
    · by_cases h : s.testBit a = true ∧ s.testBit bb = true
      · rw [if_pos h, if_neg e, upQ_ne e]
      · rw [if_neg h, if_neg e]
  · have hd := hd (by decide)
    simp only [stW, piW, clW, if_true, show (5 : Nat) ≠ 0 by decide, show (5 : Nat) ≠ 1 by decide, show (5 : Nat) ≠ 2 by decide, show (5 : Nat) ≠ 3 by decide, show (5 : Nat) ≠ 4 by decide, if_false]
    by_cases h : s.testBit a = true ∧ ¬ s.testBit bb = true
    · rw [if_pos h, exW_if]
      have ha := h.1
      have hb' : s.testBit bb = false := by simpa using h.2
      by_cases hr : ¬ r.testBit a = true ∧ r.testBit bb = true
      · have hr' : r.testBit a = false := by simpa using hr.1
        have hne : ¬ r.testBit a = r.testBit bb := by rw [hr', hr.2]; decide
        have n1 : ¬ r = s := fun z => hr.1 (by rw [z]; exact ha)
        simp only [if_pos hr, if_neg hne, if_neg n1]
        by_cases e : (r ^^^ 2 ^ a) ^^^ 2 ^ bb = s
        · have e' : r = (s ^^^ 2 ^ a) ^^^ 2 ^ bb := xx_eq.mpr e
          simp only [if_pos e, if_pos e']
          rw [← e]
        · have e' : ¬ r = (s ^^^ 2 ^ a) ^^^ 2 ^ bb := fun z => e (xx_eq.mp z)
          simp only [if_neg e, if_neg e']
      · have n1 : ¬ r = (s ^^^ 2 ^ a) ^^^ 2 ^ bb := fun z => hr (by rw [z, tb_xn hd, tb_xs, tb_xs, tb_xn (Ne.symm hd), ha, hb']; decide)
        simp only [if_neg hr, if_neg n1]
        by_cases e : r = s
        · have hne : ¬ r.testBit a = r.testBit bb := by rw [e, ha, hb']; decide
          simp only [if_pos e, if_neg hne]
          rw [e]
        · simp only [if_neg e]
    · simp only [if_neg h]
      by_cases hr : ¬ r.testBit a = true ∧ r.testBit bb = true
      · have hr' : r.testBit a = false := by simpa using hr.1
        have n1 : ¬ (r ^^^ 2 ^ a) ^^^ 2 ^ bb = s := fun z => h (by rw [← z, tb_xn hd, tb_xs, tb_xs, tb_xn (Ne.symm hd), hr', hr.2]; decide)
        simp only [if_pos hr, if_neg n1]
      · simp only [if_neg hr]
        by_cases e : r = s
        · subst e
          rw [if_pos rfl]
          cases ha : r.testBit a <;> cases hb : r.testBit bb <;> rw [ha, hb] at h hr <;> simp at h hr ⊢
        · simp only [if_neg e]
