/-! ===== gates that may not change places: a state shows it ===== -/
def gN (k a v : Nat) : Gt := (k, a, if k = 1 ∨ k = 2 then -1 else (v : Int))
def okN (n k a v : Nat) : Bool := decide (a < n) && (if k < 3 then true else decide (v < n) && !decide (v = a))
def nwB (n : Nat) (q r : Gt) : Bool := (List.range (2 ^ n)).any fun s => (List.range (2 ^ n)).any fun x => !decide (clW r (clW q (e1W s)) x = clW q (clW r (e1W s)) x)
def ncB (n k a v k' a' v' : Nat) : Bool := !(okN n k a v && okN n k' a' v') || cmB (gN k a v) (gN k' a' v') || nwB n (gN k a v) (gN k' a' v')
def vsK (n k : Nat) : List Nat := if k = 0 then List.range 8 else if k < 3 then [0] else List.range n
def ncA (n k k' : Nat) : Bool := (List.range n).all fun a => (vsK n k).all fun v => (List.range n).all fun a' => (vsK n k').all fun v' => ncB n k a v k' a' v'
def ncK (n : Nat) : Bool := (List.range 6).all fun k => (List.range 6).all fun k' => ncA n k k'
set_option maxRecDepth 100000 in
theorem nc1 : ncK 1 = true := by decide +kernel
set_option maxRecDepth 100000 in
theorem nc2 : ncK 2 = true := by decide +kernel
set_option maxRecDepth 100000 in
theorem nc3 : ncK 3 = true := by decide +kernel

