/-! ===== words that P stands on (printed by mk.py) ===== -/
theorem pzAr_ok : Cond.arrayClass .int ∈ WS ∧ Cond.arrayClass .long ∈ WS := ⟨(wt1 67 (by decide +kernel) (by decide +kernel)), (wt1 189 (by decide +kernel) (by decide +kernel))⟩
theorem pz_ct {cA : ClassId} {cT : Nat → ClassId} {D : va_G} {s : State} {k : Nat} {ty : FieldType} (hr : ∀ c, va_RA s c ty = (s.vm.findClass ("[" ++ ty.toString) = some c)) (hk : (tyL cT)[k]? = some (cT k, ty)) (hK : va_K D vwCl (tyL cT ++ [(cA, ty)]) s) : cA = cT k := by
  have h1 := (hK.2 5 (cA, ty) rfl).2
  have h2 := (hK.2 k (cT k, ty) (by
    have hl : k < 5 := (List.getElem?_eq_some_iff.mp hk).1
    rw [List.getElem?_append_left hl]; exact hk)).2
  rw [hr] at h1 h2
  exact Option.some.inj (h1.symm.trans h2)
