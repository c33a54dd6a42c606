/-! ===== the memory that the constructors leave ===== -/
def nzWl : List NzC := match nzZ with
  | some S => S.2.2.2.1
  | none => []
def nzG (a j : Nat) : Int := nzI ((nzWl.getD a (0, 0, [])).2.2[j]?)
/-- the start: ones at 1000000, the script at 1000001 -/
def sgZ (xs : Nat → Int32) : Mem := (fun a j => if a = 1000000 then 1 else if a = 1000001 then (xs j).toInt else nzG a j, fun _ _ => 0)
theorem sgZ_lo {xs : Nat → Int32} {a j : Nat} (h : a < 124) : (sgZ xs).1 a j = nzG a j := by
  show (if a = 1000000 then (1 : Int) else if a = 1000001 then (xs j).toInt else nzG a j) = _
  rw [if_neg (by omega), if_neg (by omega)]
def nzIsI (v : Option (Option MV)) : Bool := match v with
  | some (some (.inl _)) => true
  | _ => false
def nzIsR (v : Option (Option MV)) (r : Nat) : Bool := match v with
  | some (some (.inr (.inr a))) => decide (a = r)
  | _ => false
def nzCf (q : Nat × Nat × List Nat × Nat) (c : NzC) : Bool := decide (c.1 = q.1) && (decide (c.2.1 = q.2.1) && (if c.1 ≤ 3 then true else if c.1 = 4 then decide (c.2.2.length = q.2.2.1.length) && (decide (q.2.2.2 = 0) && (List.range q.2.2.1.length).all (fun j => nzIsR (c.2.2[j]?) (q.2.2.1.getD j q.2.2.2)))
  else decide (c.2.2.length = q.2.1) && (List.range q.2.1).all (fun j => bif frf (c.1 - 5) j then nzIsR (c.2.2[j]?) (q.2.2.1.getD j q.2.2.2) else nzIsI (c.2.2[j]?))))
theorem nzCf_ok : (decide (nzWl.length = 124) && (List.range 124).all (fun a => nzCf (shT.getD a (100, 0, [], 0)) (nzWl.getD a (0, 0, [])))) = true := by decide +kernel
theorem nzG_ok : (nzG 1 0 = 2 ∧ nzG 2 6 = 0 ∧ nzG 9 0 = 2 ∧ nzG 9 1 = 1 ∧ nzG 10 0 = 0 ∧ nzG 11 0 = 1 ∧ nzG 1 4 = 1 ∧ nzG 0 2 = 0 ∧ nzG 41 1 = 0) ∧ (∀ p, p < 5 → ∀ q, q < 5 → nzG (9 + 4 + p) q = if (p = 0 ∧ q = 1) ∨ (p = 1 ∧ q = 0) then 1 else 0) ∧ (nzG 19 0 = 0 ∧ nzG 19 1 = 1 ∧ nzG 20 0 = 0 ∧ nzG 20 1 = 1 ∧ nzG 20 2 = -1 ∧ nzG 20 3 = -1 ∧ nzG 20 4 = -1) ∧ (∀ j, j < 140 → nzG 42 j = 0) ∧ (nzG 43 0 = 1 ∧ nzG 43 1 = 1 ∧ nzG 43 2 = 1 ∧ nzG 43 3 = 3 ∧ nzG 43 4 = 3 ∧ nzG 43 5 = 6) := by decide +kernel
