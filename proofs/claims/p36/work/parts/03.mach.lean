/-! ===== M: a small machine over whole numbers, ids in place of addresses, the world two rows of rows; its evaluator, and what each instruction does to 'ev' ===== -/
abbrev MV : Type := Int ⊕ (Int ⊕ Nat)
abbrev mI (z : Int) : MV := Sum.inl z
abbrev mL (z : Int) : MV := Sum.inr (Sum.inl z)
abbrev mR (a : Nat) : MV := Sum.inr (Sum.inr a)
/-- what ids hold: whole fields and int, byte, boolean arrays; long arrays -/
abbrev Mem : Type := (Nat → Nat → Int) × (Nat → Nat → Int)
/-- how many ids may be written, how many more are read alone; of an id: its kind (0 int, 1 byte, 2 boolean, 3 long, 4 int[][], 5 + c an object of class c), its length, the ids that it holds -/
abbrev Shp : Type := Nat × Nat × (Nat → Nat × Nat × (Nat → Nat))
def skd (sh : Shp) (a : Nat) : Nat := (sh.2.2 a).1
def sln (sh : Shp) (a : Nat) : Nat := (sh.2.2 a).2.1
def srf (sh : Shp) (a k : Nat) : Nat := (sh.2.2 a).2.2 k
def wi (z : Int) : Int := (Int32.ofInt z).toInt
def wl (z : Int) : Int := (Int64.ofInt z).toInt
def up1 (f : Nat → Int) (i : Nat) (v : Int) : Nat → Int := fun j => if j = i then v else f j
def upA (f : Nat → Nat → Int) (a : Nat) (g : Nat → Int) : Nat → Nat → Int := fun b => if b = a then g else f b
def inR (z : Int) (n : Nat) : Prop := 0 ≤ wi z ∧ wi z < n
theorem inR_iff (z : Int) (n : Nat) : inR z n ↔ 0 ≤ wi z ∧ wi z < n := Iff.rfl
abbrev MT : Type := Nat × Instr × Nat × Nat × Nat
abbrev MR : Type := (Nat × List (Option MV) × List MV × Mem) ⊕ ((Nat × List MV × List MV) ⊕ (Option MV))
def mnx (pc : Nat) (ls : List (Option MV)) (st : List MV) (σ : Mem) : Option MR := some (.inl (pc, ls, st, σ))
def kl (v : Option MV) : Option MV := match v with
  | some (.inr (.inl _)) => none
  | v => v
/-- a store to local i: a long that stood just below is gone -/
def lpt : List (Option MV) → Nat → MV → List (Option MV)
  | [], _, _ => []
  | _ :: l, 0, v => some v :: l
  | a :: l, 1, v => kl a :: lpt l 0 v
  | a :: l, (n + 2), v => a :: lpt l (n + 1) v
def lno : List (Option MV) → Nat → List (Option MV)
  | [], _ => []
  | _ :: l, 0 => none :: l
  | a :: l, (n + 1) => a :: lno l n
def mldI (ls : List (Option MV)) (i pc : Nat) (st : List MV) (σ : Mem) : Option MR := match ls[i]? with
  | some (some (.inl x)) => mnx pc ls (.inl x :: st) σ
  | _ => none
def mldL (ls : List (Option MV)) (i pc : Nat) (st : List MV) (σ : Mem) : Option MR := match ls[i]? with
  | some (some (.inr (.inl x))) => mnx pc ls (.inr (.inl x) :: st) σ
  | _ => none
def mldR (ls : List (Option MV)) (i pc : Nat) (st : List MV) (σ : Mem) : Option MR := match ls[i]? with
  | some (some (.inr (.inr x))) => mnx pc ls (.inr (.inr x) :: st) σ
  | _ => none
def mstI (ls : List (Option MV)) (i pc : Nat) (st : List MV) (σ : Mem) : Option MR := match st with
  | .inl x :: r => if i < ls.length then mnx pc (lpt ls i (.inl x)) r σ else none
  | _ => none
def mstL (ls : List (Option MV)) (i pc : Nat) (st : List MV) (σ : Mem) : Option MR := match st with
  | .inr (.inl x) :: r => if i + 1 < ls.length then mnx pc (lno (lpt ls i (.inr (.inl x))) (i + 1)) r σ else none
  | _ => none
def mstR (ls : List (Option MV)) (i pc : Nat) (st : List MV) (σ : Mem) : Option MR := match st with
  | .inr (.inr x) :: r => if i < ls.length then mnx pc (lpt ls i (.inr (.inr x))) r σ else none
  | _ => none
def mb2 (pc : Nat) (ls : List (Option MV)) (st : List MV) (σ : Mem) (f : Int → Int → Int) : Option MR := match st with
  | .inl y :: .inl x :: r => mnx pc ls (.inl (f x y) :: r) σ
  | _ => none
def ml2 (pc : Nat) (ls : List (Option MV)) (st : List MV) (σ : Mem) (f : Int → Int → Int) : Option MR := match st with
  | .inr (.inl y) :: .inr (.inl x) :: r => mnx pc ls (.inr (.inl (f x y)) :: r) σ
  | _ => none
def mls (pc : Nat) (ls : List (Option MV)) (st : List MV) (σ : Mem) (f : Int → Int → Int) : Option MR := match st with
  | .inl y :: .inr (.inl x) :: r => mnx pc ls (.inr (.inl (f x y)) :: r) σ
  | _ => none
def m1I (pc : Nat) (ls : List (Option MV)) (st : List MV) (σ : Mem) (f : Int → MV) : Option MR := match st with
  | .inl x :: r => mnx pc ls (f x :: r) σ
  | _ => none
def m1L (pc : Nat) (ls : List (Option MV)) (st : List MV) (σ : Mem) (f : Int → MV) : Option MR := match st with
  | .inr (.inl x) :: r => mnx pc ls (f x :: r) σ
  | _ => none
def xdiv (x y : Int) : Int := (Int32.ofInt x / Int32.ofInt y).toInt
def xrem (x y : Int) : Int := (Int32.ofInt x - Int32.ofInt x / Int32.ofInt y * Int32.ofInt y).toInt
def xand (x y : Int) : Int := (Int32.ofInt x &&& Int32.ofInt y).toInt
def xor' (x y : Int) : Int := (Int32.ofInt x ||| Int32.ofInt y).toInt
def xxor (x y : Int) : Int := (Int32.ofInt x ^^^ Int32.ofInt y).toInt
def xshl (x y : Int) : Int := (Int32.ofInt x <<< (Int32.ofInt y &&& 31)).toInt
def xshr (x y : Int) : Int := (Int32.ofInt x >>> (Int32.ofInt y &&& 31)).toInt
def xushr (x y : Int) : Int := ((Int32.ofInt x).toUInt32 >>> ((Int32.ofInt y).toUInt32 &&& Int32.toUInt32 31)).toInt32.toInt
def mmx (x y : Int) : Int := if wi x < wi y then y else x
def mmn (x y : Int) : Int := if wi y < wi x then y else x
def xi2b (x : Int) : Int := (Int32.ofInt x).toInt8.toInt
def xi2c (x : Int) : Int := ((Int32.ofInt x).toUInt32 % 65536).toInt32.toInt
def ldiv' (x y : Int) : Int := (Int64.ofInt x / Int64.ofInt y).toInt
def land' (x y : Int) : Int := (Int64.ofInt x &&& Int64.ofInt y).toInt
def lor' (x y : Int) : Int := (Int64.ofInt x ||| Int64.ofInt y).toInt
def lshl' (x y : Int) : Int := (Int64.ofInt x <<< ((Int32.ofInt y).toInt64 &&& 63)).toInt
def lushr' (x y : Int) : Int := ((Int64.ofInt x).toUInt64 >>> ((Int32.ofInt y).toInt64.toUInt64 &&& Int64.toUInt64 63)).toInt64.toInt
def lcmp' (x y : Int) : Int := if wl x < wl y then -1 else if wl x = wl y then 0 else 1
def cnd (c : ClassFile.Cond) (x y : Int) : Bool := match c with
  | .eq => decide (x = y)
  | .ne => !decide (x = y)
  | .lt => decide (x < y)
  | .ge => !decide (x < y)
  | .gt => decide (y < x)
  | .le => !decide (y < x)
def mif (c : ClassFile.Cond) (off : Int) (pc x1 : Nat) (ls : List (Option MV)) (r : List MV) (σ : Mem) (x y : Int) : Option MR :=
  if (pc : Int) + off = (x1 : Int) then mnx (bif cnd c x y then x1 else pc + 3) ls r σ else none
