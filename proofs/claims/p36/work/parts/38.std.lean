/-! ===== State: drawn ===== -/
section STD
variable {sh : Shp} {d s cap : Nat} {σ : Mem} {z : Int} {x : Nat}
/-- the number drawn next -/
def drN (x : Nat) : Nat := (25173 * x + 13849) % 65536
end STD
