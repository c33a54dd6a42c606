/-! ===== shapes that the object has ===== -/
/-- a course at k: gates at k + 1, board at k + 8, layout at k + 17, what is ahead at k + 20 -/
def crS (sh : Shp) (k : Nat) : Prop := ob sh 2 5 k ∧ srf sh k 0 = k + 1 ∧ srf sh k 1 = k + 8 ∧ srf sh k 2 = k + 17 ∧ srf sh k 3 = k + 20 ∧ glS sh (k + 1) 30 ∧ bdS sh (k + 8) ∧ lyS sh (k + 17) ∧ skd sh (k + 20) = 0 ∧ sln sh (k + 20) = 30 ∧ k + 20 < sh.1
/-- a router at o: its course at o + 1, steps at o + 22, which are swaps at o + 29, wear at o + 30 -/
def roS (sh : Shp) (o : Nat) : Prop := ob sh 6 5 o ∧ srf sh o 0 = o + 1 ∧ srf sh o 1 = o + 22 ∧ srf sh o 2 = o + 29 ∧ srf sh o 3 = o + 30 ∧ crS sh (o + 1) ∧ glS sh (o + 22) 70 ∧ skd sh (o + 29) = 2 ∧ sln sh (o + 29) = 70 ∧ skd sh (o + 30) = 0 ∧ sln sh (o + 30) = 5 ∧ o + 30 < sh.1
/-- a finder at f: its course at f + 1, what failed at f + 22 -/
def fnS (sh : Shp) (f : Nat) : Prop := ob sh 3 2 f ∧ srf sh f 0 = f + 1 ∧ srf sh f 1 = f + 22 ∧ crS sh (f + 1) ∧ skd sh (f + 22) = 3 ∧ sln sh (f + 22) = 2048 ∧ f + 22 < sh.1
