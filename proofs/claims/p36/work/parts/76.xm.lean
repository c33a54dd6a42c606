/-! ===== fewest, fewestOf, keep, undo ===== -/
def fwO (n : Nat) (c : List Gt) (E : List Ed) (P : Nat → Nat) (lo : Bool) : Option Nat := fst1 (fun l => caB (farE E) c E (ahS lo c) l P 0) (7 - 0) 0
def fwI' (a : AX) (lo : Bool) : Int := opM (fwO a.1.1 a.1.2.1 a.1.2.2.2.1 a.1.2.2.2.2.1 lo)
def fAl (n m : Nat) (c : List Gt) (E : List Ed) (lo : Bool) (l : Nat) : Option Nat := fst1 (fun i => caB (farE E) c E (ahS lo c) l (pOf n ((rwL n m).getD i 0)) 0) ((rwL n m).length - 0) 0
def fAn (n m : Nat) (c : List Gt) (E : List Ed) (lo : Bool) : Nat → Nat → Option (Nat × Nat)
  | 0, _ => none
  | f + 1, l => match fAl n m c E lo l with
    | some i => some (l, i)
    | none => fAn n m c E lo f (l + 1)
def opA (L : List Nat) (te : Bool) : Option (Nat × Nat) → Int
  | none => -2
  | some q => if te = true then (L.getD q.2 0 : Int) else (q.1 : Int)
def fwA (a : AX) (lo te : Bool) : Int := opA (rwL a.1.1 a.1.2.2.1) te (fAn a.1.1 a.1.2.2.1 a.1.2.1 a.1.2.2.2.1 lo 7 0)
def aFewest (a : AX) : Int := if a.1.2.2.1 < a.1.1 then -3 else fwI' a false
def aFewOf (a : AX) (w : Int) : Int := if w < 0 ∨ 4 < w then -1 else if a.1.2.2.1 < a.1.1 then -3 else if w = 0 then fwI' a true else fwA a (decide (3 ≤ w)) (decide (w % 2 = 0))
def aKeep (a : AX) : Int × AX := ((a.1.2.1.length : Int), (a.1, some a.1, a.2.2))
def aUndo (a : AX) : Int × AX := match a.2.1 with
  | none => (0, a)
  | some S => (1, (S, a.2))
section XM
variable {sh : Shp} {d k ly n m : Nat} {σ : Mem} {a : AX} {z w v i : Int} {c : List Gt} {E : List Ed} {A P : Nat → Nat}
theorem HKs.B {σ' : Mem} {x y : Nat} (h : HKs σ k c m E A) (hf : frB x y σ σ') (h1 : k + 20 < x ∨ y < k) : HKs σ' k c m E A := by
  obtain ⟨a1, a2, ⟨G, a3, a3'⟩, a4⟩ := h
  refine ⟨a1.k (fun b b1 b2 => (hf b (by omega)).1), ⟨?_, ?_, fun j hj => ?_⟩, ⟨G, fun p hp q hq => ?_, a3'⟩, fun g hg => ?_⟩
  · rw [(hf _ (by omega)).1]; exact a2.1
  · rw [(hf _ (by omega)).1]; exact a2.2.1
  · rw [(hf _ (by omega)).1, (hf _ (by omega)).1]; exact a2.2.2 j hj
  · rw [(hf _ (by omega)).1]; exact a3 p hp q hq
  · rw [(hf _ (by omega)).1]; exact a4 g hg
end XM
