/-! ===== N: a machine for constructors. The world is a list of cells; fields may be null; it grows at its end ===== -/
abbrev NzC : Type := Nat × Nat × List (Option MV)
/-- pc, locals, stack, world, cells and slots that came -/
abbrev NzS : Type := Nat × List (Option MV) × List MV × List NzC × Nat × Nat
/-- on; a call (method, arguments, what lies below); an end -/
abbrev NzR : Type := NzS ⊕ ((Nat × List MV × List MV) ⊕ Unit)
def nzOk (n : Nat) (v : Option MV) : Bool := match v with
  | some (.inr (.inr a)) => decide (a < n) || decide (160 ≤ a)
  | _ => true
def nzWok (w : List NzC) (ls : List (Option MV)) (st : List MV) : Bool := w.all (fun c => decide (c.1 ≤ 3) || c.2.2.all (nzOk w.length)) && (ls.all (nzOk w.length) && st.all (fun v => nzOk w.length (some v)))
def nzCL : List (Nat × Nat × Nat) := [(12, 7, 10), (10, 7, 8), (8, 15, 4), (8, 24, 0), (8, 31, 5), (10, 19, 9), (10, 38, 4), (10, 47, 0), (10, 54, 5), (10, 61, 7), (10, 68, 1), (10, 81, 6), (6, 9, 2), (2, 9, 4), (2, 20, 0), (2, 27, 5), (6, 18, 4), (10, 88, 3), (3, 9, 2), (12, 10, 11)]
def nzIL : List (Nat × Nat × Nat) := [(12, 9, 113), (8, 17, 44), (8, 26, 0), (8, 33, 73), (10, 40, 44), (10, 49, 0), (10, 56, 73), (2, 11, 44), (2, 22, 0), (2, 29, 73), (6, 20, 44), (12, 12, 163)]
def nzNL : List (Nat × Nat × Nat) := [(10, 9, 101), (10, 21, 104), (10, 63, 97), (10, 70, 12), (10, 83, 85), (6, 11, 25), (10, 90, 37), (3, 11, 25)]
def nzOL : List (Nat × Nat) := [(0, 3), (1, 3), (2, 3), (3, 3), (4, 3), (5, 3), (6, 3), (7, 3), (8, 3), (9, 3), (10, 1), (11, 1)]
def nzCt : List Nat := [0, 12, 25, 37, 44, 73, 85, 97, 101, 104, 113, 163]
def nzNF : List Nat := [5, 3, 5, 2, 7, 2, 5, 2, 5, 2, 14, 59]
def nzFind (l : List (Nat × Nat × Nat)) (own i : Nat) : Option (Nat × Nat × Nat) := l.find? (fun q => q.1 == own && q.2.1 == i)
def nzGo (pc : Nat) (ls : List (Option MV)) (st : List MV) (w : List NzC) (nc ns : Nat) : Option NzR := some (.inl (pc, ls, st, w, nc, ns))
def nzAl (c : NzC) (sl pc : Nat) (ls : List (Option MV)) (st : List MV) (w : List NzC) (nc ns : Nat) : Option NzR :=
  if nzWok w ls st = true ∧ (decide (c.1 ≤ 3) || c.2.2.all (nzOk w.length)) = true ∧ c.1 ≠ 4 ∧ w.length < 160 then nzGo pc ls (mR w.length :: st) (w ++ [c]) (nc + 1) (ns + sl) else none
/-- five rows of five, and the row of them -/
def nzM5 (n : Nat) : List NzC := (4, 5, (List.range 5).map (fun j => some (mR (n + 1 + j)))) :: List.replicate 5 (0, 5, List.replicate 5 (some (mI 0)))
def nzAl5 (pc : Nat) (ls : List (Option MV)) (st : List MV) (w : List NzC) (nc ns : Nat) : Option NzR :=
  if nzWok w ls st = true ∧ w.length + 6 ≤ 160 ∧ 0 < w.length then nzGo pc ls (mR w.length :: st) (w ++ nzM5 w.length) (nc + 6) (ns + 30) else none
def nzNew (k : Nat) : NzC := (5 + k, nzNF.getD k 0, (List.range (nzNF.getD k 0)).map (fun j => bif frf k j then none else some (mI 0)))
def nzArr (t : ArrayType) (n : Nat) : Option NzC := match t with
  | .int => some (0, n, List.replicate n (some (mI 0)))
  | .byte => some (1, n, [])
  | .boolean => some (2, n, [])
  | .long => some (3, n, [])
  | _ => none
def nzCall (x1 : Nat) (st : List MV) : Option NzR := match (st.take (mNA x1)).reverse with
  | .inr (.inr a) :: As => if mNA x1 ≤ st.length ∧ (ments (mR a :: As)).length ≤ mML x1 ∧ mcs (st.drop (mNA x1)) ≤ 8 then some (.inr (.inl (x1, mR a :: As, st.drop (mNA x1)))) else none
  | _ => none
def nzRecv (w : List NzC) (x1 : Nat) (st : List MV) : Bool := match (st.take (mNA x1)).reverse with
  | .inr (.inr a) :: _ => (match w[a]? with
    | some c => decide (c.1 = 5 + mCI x1)
    | none => false)
  | _ => false
def nzStep (d m pc : Nat) (ls : List (Option MV)) (st : List MV) (w : List NzC) (nc ns : Nat) (i : Instr) (len x1 x2 : Nat) : Option NzR := match i with
  | .aload_n k => (match ls[k.val]? with
    | some (some (.inr (.inr x))) => if len = 1 then nzGo (pc + 1) ls (mR x :: st) w nc ns else none
    | _ => none)
  | .iload_n k => (match ls[k.val]? with
    | some (some (.inl x)) => if len = 1 then nzGo (pc + 1) ls (mI x :: st) w nc ns else none
    | _ => none)
  | .iconst z => if len = 1 then nzGo (pc + 1) ls (mI z :: st) w nc ns else none
  | .bipush z => if len = 2 ∧ (Int8.ofInt z).toInt = z then nzGo (pc + 2) ls (mI z :: st) w nc ns else none
  | .sipush z => if len = 3 ∧ (Int16.ofInt z).toInt = z then nzGo (pc + 3) ls (mI z :: st) w nc ns else none
  | .dup => (match st with
    | .inr (.inr x) :: r => if len = 1 then nzGo (pc + 1) ls (mR x :: mR x :: r) w nc ns else none
    | _ => none)
  | .istore_n k => (match st with
    | .inl x :: r => if len = 1 ∧ k.val < ls.length then nzGo (pc + 1) (lpt ls k.val (mI x)) r w nc ns else none
    | _ => none)
  | .astore_n k => (match st with
    | .inr (.inr x) :: r => if len = 1 ∧ k.val < ls.length then nzGo (pc + 1) (lpt ls k.val (mR x)) r w nc ns else none
    | _ => none)
  | .iinc k z => (match ls[k]? with
    | some (some (.inl x)) => if len = 3 then nzGo (pc + 3) (lpt ls k (mI (x + z))) st w nc ns else none
    | _ => none)
  | .goto off => if len = 3 ∧ (pc : Int) + off = (x1 : Int) then nzGo x1 ls st w nc ns else none
  | .if_icmp .ge off => (match st with
    | .inl y :: .inl x :: r => if len = 3 ∧ (pc : Int) + off = (x1 : Int) then (if wi x < wi y then nzGo (pc + 3) ls r w nc ns else nzGo x1 ls r w nc ns) else none
    | _ => none)
  | .invokestatic _ => (match st with
    | .inl y :: .inl x :: r => if len = 3 ∧ x2 = 4 ∧ 1 ≤ d ∧ mcs r ≤ 8 then nzGo (pc + 3) ls (mI (mmx x y) :: r) w nc ns else none
    | _ => none)
  | .new i => (match nzFind nzCL (mCI m) i with
    | some q => if len = 3 then nzAl (nzNew q.2.2) (nzNF.getD q.2.2 0) (pc + 3) ls st w nc ns else none
    | none => none)
  | .newarray t => (match st with
    | .inl n :: r => if len = 2 ∧ 0 ≤ n ∧ wi n = n ∧ n ≤ 4096 then (match nzArr t n.toNat with
      | some c => nzAl c n.toNat (pc + 2) ls r w nc ns
      | none => none) else none
    | _ => none)
  | .multianewarray i k => (match st with
    | .inl y :: .inl x :: r => if len = 4 ∧ k = 2 ∧ mCI m = 0 ∧ i = 25 ∧ x = 5 ∧ y = 5 then nzAl5 (pc + 4) ls r w nc ns else none
    | _ => none)
  | .putfield _ => (match st with
    | .inl v :: .inr (.inr a) :: r => (match w[a]? with
      | some c => if len = 3 ∧ c.1 = 5 + x1 ∧ x2 < c.2.2.length ∧ frf x1 x2 = false ∧ (fbl x1 x2 = true → v = 0 ∨ v = 1) then nzGo (pc + 3) ls r (w.set a (c.1, c.2.1, c.2.2.set x2 (some (mI v)))) nc ns else none
      | none => none)
    | .inr (.inr v) :: .inr (.inr a) :: r => (match w[a]? with
      | some c => if len = 3 ∧ c.1 = 5 + x1 ∧ x2 < c.2.2.length ∧ frf x1 x2 = true ∧ x1 = mCI m ∧ nzCt.contains m = true then nzGo (pc + 3) ls r (w.set a (c.1, c.2.1, c.2.2.set x2 (some (mR v)))) nc ns else none
      | none => none)
    | _ => none)
  | .getfield _ => (match st with
    | .inr (.inr a) :: r => (match w[a]? with
      | some c => if len = 3 ∧ c.1 = 5 + x1 then (match c.2.2[x2]? with
        | some (some v) => nzGo (pc + 3) ls (v :: r) w nc ns
        | _ => none) else none
      | none => none)
    | _ => none)
  | .iastore => (match st with
    | .inl v :: .inl i :: .inr (.inr a) :: r => (match w[a]? with
      | some c => if len = 1 ∧ c.1 = 0 ∧ 0 ≤ wi i ∧ wi i < c.2.1 ∧ wi i < c.2.2.length then nzGo (pc + 1) ls r (w.set a (c.1, c.2.1, c.2.2.set (wi i).toNat (some (mI v)))) nc ns else none
      | none => none)
    | _ => none)
  | .aaload => (match st with
    | .inl i :: .inr (.inr a) :: r => (match w[a]? with
      | some c => if len = 1 ∧ c.1 = 4 ∧ 0 ≤ wi i ∧ wi i < c.2.1 then (match c.2.2[(wi i).toNat]? with
        | some (some (.inr (.inr x))) => nzGo (pc + 1) ls (mR x :: r) w nc ns
        | _ => none) else none
      | none => none)
    | _ => none)
  | .getstatic _ => if m = 113 ∧ pc = 38 ∧ 1 ≤ d ∧ mcs st ≤ 8 then nzAl (0, 6, [some (mI 1), some (mI 1), some (mI 1), some (mI 3), some (mI 3), some (mI 6)]) 6 47 ls st w nc ns else none
  | .invokespecial i => if nzOL.contains (mCI m, i) = true then (match st with
      | .inr (.inr _) :: r => if len = 3 ∧ 1 ≤ d ∧ mcs r ≤ 8 then nzGo (pc + 3) ls r w nc ns else none
      | _ => none)
    else (match nzFind nzIL (mCI m) i with
      | some q => if len = 3 then nzCall q.2.2 st else none
      | none => (match nzFind nzNL (mCI m) i with
        | some q => if len = 3 then nzCall q.2.2 st else none
        | none => none))
  | .invokevirtual _ => if len = 3 ∧ x2 = 0 ∧ mST x1 = 0 ∧ mRT x1 = 0 ∧ nzRecv w x1 st = true then nzCall x1 st else none
  | .return_ => (match st with
    | [] => if len = 1 ∧ mRT m = 0 then some (.inr (.inr ())) else none
    | _ => none)
  | _ => none
def nzEv : Nat → Nat → Nat → NzS → Option NzS
  | 0, _, _, _ => none
  | n + 1, d, m, S =>
    if m = 288 ∧ S.1 = 18 then some S else
    match mcode m S.1 with
    | none => none
    | some e => match nzStep d m S.1 S.2.1 S.2.2.1 S.2.2.2.1 S.2.2.2.2.1 S.2.2.2.2.2 e.1 e.2.1 e.2.2.1 e.2.2.2 with
      | none => none
      | some (.inl S') => nzEv n d m S'
      | some (.inr (.inl (c, as, r))) => (match d with
        | 0 => none
        | d' + 1 => if nzWok S.2.2.2.1 S.2.1 (as ++ r) = true then (match nzEv n d' c (0, ment c as, [], S.2.2.2.1, 0, 0) with
          | none => none
          | some C => nzEv n (d' + 1) m (S.1 + 3, S.2.1, r, C.2.2.2.1, S.2.2.2.2.1 + C.2.2.2.2.1, S.2.2.2.2.2 + C.2.2.2.2.2)) else none)
      | some (.inr (.inr ())) => some S
/-- the world that the law's constructors leave -/
def nzZ : Option NzS := nzEv 2000 8 288 (0, [some (mR 161), none, none, none], [], [], 0, 0)
def nzSeen : Bool := match nzZ with
  | some (18, [some (.inr (.inr 161)), some (.inr (.inr 0)), some (.inr (.inr 124)), some (.inl 0)], [], w, 160, ns) => decide (w.length = 160) && decide (ns ≤ 20000)
  | _ => false
theorem nzSeen_ok : nzSeen = true := by decide +kernel
